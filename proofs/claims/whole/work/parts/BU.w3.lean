section
set_option maxHeartbeats 1600000
/-! the class: the knots, as a matter of rows alone -/
def tjH (n : Nat) (sn lw hp ko : Nat → Int32) (H S : Int) : Prop := (∀ i : Nat, (i : Int) < H → (0 ≤ (hp i).toInt ∧ (hp i).toInt < n) ∧ sn (hp i).toNatClampNeg ≠ 0 ∧ ko (hp i).toNatClampNeg = -1 ∧ (sn (hp 0).toNatClampNeg).toInt ≤ (lw (hp i).toNatClampNeg).toInt ∧ (lw (hp i).toNatClampNeg).toInt ≤ (sn (hp i).toNatClampNeg).toInt) ∧ (∀ i : Nat, (i : Int) + 1 < H → (sn (hp i).toNatClampNeg).toInt < (sn (hp (i + 1)).toNatClampNeg).toInt) ∧ (∀ s, s < n → 0 ≤ (sn s).toInt ∧ (sn s).toInt ≤ S) ∧ (∀ s, s < n → sn s ≠ 0 → ko s = -1 → ∃ i : Nat, (i : Int) < H ∧ (hp i).toNatClampNeg = s) ∧ (∀ s, s < n → sn s = 0 → ko s = -1)
def tjP (sn pa hp : Nat → Int32) (H d : Int) : Prop := (∀ j : Nat, (j : Int) < d → ∃ i : Nat, (i : Int) < H ∧ hp i = pa j) ∧ (∀ j : Nat, (j : Int) + 1 < d → (sn (pa j).toNatClampNeg).toInt < (sn (pa (j + 1)).toNatClampNeg).toInt) ∧ (0 < d → pa 0 = hp 0)
def tjC (n : Nat) (sn : Nat → Int32) (H P S K d : Int) : Prop := (0 ≤ H ∧ 0 ≤ P ∧ 0 ≤ K ∧ 0 ≤ d) ∧ P + H = S ∧ S = cBq sn n ∧ K + d ≤ S
def tjO (n : Nat) (ko od kf : Nat → Int32) (P K : Int) : Prop := (∀ i : Nat, (i : Int) < P → (0 ≤ (od i).toInt ∧ (od i).toInt < n) ∧ (0 ≤ (ko (od i).toNatClampNeg).toInt ∧ (ko (od i).toNatClampNeg).toInt < K) ∧ (kf (ko (od i).toNatClampNeg).toNatClampNeg).toInt ≤ (i : Int) ∧ ((ko (od i).toNatClampNeg).toInt + 1 < K → (i : Int) < (kf ((ko (od i).toNatClampNeg).toNatClampNeg + 1)).toInt)) ∧ (∀ c : Nat, (c : Int) < K → (0 ≤ (kf c).toInt ∧ (kf c).toInt < P) ∧ ((c : Int) + 1 < K → (kf c).toInt < (kf (c + 1)).toInt)) ∧ (∀ s, s < n → ko s ≠ -1 → ∃ i : Nat, (i : Int) < P ∧ (od i).toNatClampNeg = s)
def tjU (n : Nat) (wf sn cu : Nat → Int32) : Prop := ∀ k, k < n → sn k ≠ 0 → (wf k).toInt ≤ (cu k).toInt ∧ (cu k).toInt ≤ (wf (k + 1)).toInt
def tjF (n : Nat) (wf sn cu : Nat → Int32) : Int := sgI (fun k => if sn k = 0 then (wf (k + 1)).toInt - (wf k).toInt + 1 else (wf (k + 1)).toInt - (cu k).toInt) n
theorem tjH_m {n : Nat} {sn lw hp ko : Nat → Int32} {H S : Int} (h : tjH n sn lw hp ko H S) : ∀ {j i : Nat}, i < j → (j : Int) < H → (sn (hp i).toNatClampNeg).toInt < (sn (hp j).toNatClampNeg).toInt := by
  intro j
  induction j with
  | zero => intro i h1; exact absurd h1 (Nat.not_lt_zero _)
  | succ j ih =>
    intro i h1 h2
    have a := h.2.1 j (by omega)
    by_cases z : i = j
    · rw [z]; exact a
    · have b := ih (i := i) (by omega) (by omega)
      omega
theorem tjH_i {n : Nat} {sn lw hp ko : Nat → Int32} {H S : Int} (h : tjH n sn lw hp ko H S) {i j : Nat} (hi : (i : Int) < H) (hj : (j : Int) < H) (e : (hp i).toNatClampNeg = (hp j).toNatClampNeg) : i = j := by
  by_cases a : i < j
  · have := tjH_m h a hj
    rw [e] at this
    omega
  · by_cases b : j < i
    · have := tjH_m h b hi
      rw [e] at this
      omega
    · omega
theorem tjF_p {n : Nat} {wf sn cu : Nat → Int32} (u : tjU n wf sn cu) (w : ∀ k, k < n → (wf k).toInt ≤ (wf (k + 1)).toInt) : 0 ≤ tjF n wf sn cu := by
  have := sgI_mo (f := fun k => if sn k = 0 then (wf (k + 1)).toInt - (wf k).toInt + 1 else (wf (k + 1)).toInt - (cu k).toInt) (n := 0) (m := n) (Nat.zero_le _) (fun i hi => by
    have a := w i hi
    show 0 ≤ if sn i = 0 then (wf (i + 1)).toInt - (wf i).toInt + 1 else (wf (i + 1)).toInt - (cu i).toInt
    split
    · omega
    · rename_i z
      have := u i hi z
      omega)
  exact this
theorem tjF_b {n : Nat} {wf sn cu : Nat → Int32} (u : tjU n wf sn cu) : ∀ {m : Nat}, m ≤ n → sgI (fun k => if sn k = 0 then (wf (k + 1)).toInt - (wf k).toInt + 1 else (wf (k + 1)).toInt - (cu k).toInt) m ≤ (wf m).toInt - (wf 0).toInt + m := by
  intro m
  induction m with
  | zero =>
    intro _
    show (0 : Int) ≤ _
    omega
  | succ m ih =>
    intro h
    have a := ih (by omega)
    show sgI _ m + (if sn m = 0 then (wf (m + 1)).toInt - (wf m).toInt + 1 else (wf (m + 1)).toInt - (cu m).toInt) ≤ _
    split
    · omega
    · rename_i z
      have := u m (by omega) z
      omega
/-- one link more of a state -/
theorem tjF_c {n k : Nat} {wf sn cu cu' : Nat → Int32} {x : Int32} (hk : k < n) (h : sn k ≠ 0) (e : cu' = upd cu k x) (ex : x.toInt = (cu k).toInt + 1) : tjF n wf sn cu' = tjF n wf sn cu - 1 := by
  have q := sgI_up (f := fun k => if sn k = 0 then (wf (k + 1)).toInt - (wf k).toInt + 1 else (wf (k + 1)).toInt - (cu k).toInt) (g := fun k => if sn k = 0 then (wf (k + 1)).toInt - (wf k).toInt + 1 else (wf (k + 1)).toInt - (cu' k).toInt) (j := k) (d := -1) hk (fun i _ hi => by
    have z : cu' i = cu i := by rw [e]; exact if_neg hi
    show (if sn i = 0 then (wf (i + 1)).toInt - (wf i).toInt + 1 else (wf (i + 1)).toInt - (cu' i).toInt) = _
    rw [z]) (by
    have z : cu' k = x := by rw [e]; exact if_pos rfl
    show (if sn k = 0 then (wf (k + 1)).toInt - (wf k).toInt + 1 else (wf (k + 1)).toInt - (cu' k).toInt) = (if sn k = 0 then (wf (k + 1)).toInt - (wf k).toInt + 1 else (wf (k + 1)).toInt - (cu k).toInt) + -1
    rw [z, if_neg h, if_neg h, ex]
    omega)
  unfold tjF
  omega
theorem tjU_c {n k : Nat} {wf sn cu cu' : Nat → Int32} {x : Int32} (u : tjU n wf sn cu) (h : (cu k).toInt < (wf (k + 1)).toInt) (e : cu' = upd cu k x) (ex : x.toInt = (cu k).toInt + 1) : tjU n wf sn cu' := fun i hi hs => by
  have a := u i hi hs
  by_cases z : i = k
  · subst z
    have q : cu' i = x := by rw [e]; exact if_pos rfl
    rw [q, ex]; omega
  · have q : cu' i = cu i := by rw [e]; exact if_neg z
    rw [q]; exact a
/-- a lower mark -/
theorem tjH_l {n k : Nat} {sn lw hp ko lw' : Nat → Int32} {H S : Int} {x : Int32} (h : tjH n sn lw hp ko H S) (e : lw' = upd lw k x) (x1 : (sn (hp 0).toNatClampNeg).toInt ≤ x.toInt) (x2 : x.toInt ≤ (lw k).toInt) : tjH n sn lw' hp ko H S := by
  obtain ⟨h1, h2⟩ := h
  refine ⟨fun i hi => ?_, h2⟩
  obtain ⟨a, b, c, d, f⟩ := h1 i hi
  refine ⟨a, b, c, ?_⟩
  by_cases z : (hp i).toNatClampNeg = k
  · have q : lw' (hp i).toNatClampNeg = x := by rw [e]; exact if_pos z
    rw [q]
    rw [z] at f ⊢
    exact ⟨x1, by omega⟩
  · have q : lw' (hp i).toNatClampNeg = lw (hp i).toNatClampNeg := by rw [e]; exact if_neg z
    rw [q]; exact ⟨d, f⟩
/-- a state is come to -/
theorem tj_v {n k : Nat} {wf sn lw cu pa hp ko sn' lw' cu' pa' hp' : Nat → Int32} {H P S K d : Int} {x y : Int32} (c : tjC n sn H P S K d) (h : tjH n sn lw hp ko H S) (p : tjP sn pa hp H d) (u : tjU n wf sn cu) (d0 : d = 0 → H = 0) (hn : n ≤ 1000) (w : ∀ k, k < n → (wf k).toInt ≤ (wf (k + 1)).toInt) (hk : k < n) (hs : sn k = 0) (hx : x.toInt = S + 1) (hy : y.toInt = (k : Int)) (e1 : sn' = upd sn k x) (e2 : lw' = upd lw k x) (e3 : cu' = upd cu k (wf k)) (e4 : pa' = upd pa d.toNat y) (e5 : hp' = upd hp H.toNat y) : tjC n sn' (H + 1) P (S + 1) K (d + 1) ∧ tjH n sn' lw' hp' ko (H + 1) (S + 1) ∧ tjP sn' pa' hp' (H + 1) (d + 1) ∧ tjU n wf sn' cu' ∧ tjF n wf sn' cu' = tjF n wf sn cu - 1 := by
  obtain ⟨c1, c2, c3, c4⟩ := c
  obtain ⟨h1, h2, h3, h4, h5⟩ := h
  obtain ⟨p1, p2, p3⟩ := p
  have x0 : x ≠ 0 := fun z => by rw [z, t0i] at hx; omega
  have ky : y.toNatClampNeg = k := by
    have := cnk (x := y) (by omega)
    omega
  have sk : sn' k = x := by rw [e1]; exact if_pos rfl
  have so : ∀ i, i ≠ k → sn' i = sn i := fun i hi => by rw [e1]; exact if_neg hi
  have lk : lw' k = x := by rw [e2]; exact if_pos rfl
  have lo : ∀ i, i ≠ k → lw' i = lw i := fun i hi => by rw [e2]; exact if_neg hi
  have hH : hp' H.toNat = y := by rw [e5]; exact if_pos rfl
  have ho : ∀ i, i ≠ H.toNat → hp' i = hp i := fun i hi => by rw [e5]; exact if_neg hi
  have pd : pa' d.toNat = y := by rw [e4]; exact if_pos rfl
  have po : ∀ i, i ≠ d.toNat → pa' i = pa i := fun i hi => by rw [e4]; exact if_neg hi
  have nk : ∀ i : Nat, (i : Int) < H → (hp i).toNatClampNeg ≠ k := fun i hi z => (h1 i hi).2.1 (by rw [z]; exact hs)
  have b0 : ∀ i : Nat, (i : Int) < H → (hp i).toNatClampNeg < n := fun i hi => by
    have a := (h1 i hi).1
    have := cnk a.1
    omega
  have z0 : 0 < H → (sn' (hp' 0).toNatClampNeg).toInt = (sn (hp 0).toNatClampNeg).toInt := fun hh => by
    rw [ho 0 (by omega), so _ (nk 0 hh)]
  have z1 : (sn' (hp' 0).toNatClampNeg).toInt ≤ S + 1 := by
    by_cases q : 0 < H
    · rw [z0 q]
      have := (h3 _ (b0 0 q)).2
      omega
    · have e : H.toNat = 0 := by omega
      rw [e] at hH
      rw [hH, ky, sk]; omega
  refine ⟨⟨by omega, by omega, ?_, by omega⟩, ⟨fun i hi => ?_, fun i hi => ?_, fun s hs2 => ?_, fun s hs2 a b => ?_, fun s hs2 a => ?_⟩, ⟨fun j hj => ?_, fun j hj => ?_, fun _ => ?_⟩, fun i hi a => ?_, ?_⟩
  · rw [e1, cBq_up hk hs x0, c3]
  · by_cases q : i = H.toNat
    · rw [q, hH, ky, sk, lk]
      exact ⟨by omega, x0, h5 k hk hs, by omega, Int.le_refl _⟩
    · have hi2 : (i : Int) < H := by omega
      obtain ⟨a, b, c, d, f⟩ := h1 i hi2
      rw [ho i q, so _ (nk i hi2), lo _ (nk i hi2), z0 (by omega)]
      exact ⟨a, b, c, d, f⟩
  · have hi2 : (i : Int) < H := by omega
    rw [ho i (by omega), so _ (nk i hi2)]
    by_cases q : i + 1 = H.toNat
    · rw [q, hH, ky, sk]
      have := (h3 _ (b0 i hi2)).2
      omega
    · rw [ho (i + 1) q, so _ (nk (i + 1) (by omega))]
      exact h2 i (by omega)
  · by_cases q : s = k
    · rw [q, sk]; omega
    · rw [so s q]
      have := h3 s hs2
      omega
  · by_cases q : s = k
    · exact ⟨H.toNat, by omega, by rw [hH, ky, q]⟩
    · rw [so s q] at a
      obtain ⟨i, g1, g2⟩ := h4 s hs2 a b
      exact ⟨i, by omega, by rw [ho i (by omega)]; exact g2⟩
  · by_cases q : s = k
    · rw [q, sk] at a
      exact absurd a x0
    · rw [so s q] at a
      exact h5 s hs2 a
  · by_cases q : j = d.toNat
    · exact ⟨H.toNat, by omega, by rw [hH, q, pd]⟩
    · obtain ⟨i, g1, g2⟩ := p1 j (by omega)
      exact ⟨i, by omega, by rw [ho i (by omega), po j q]; exact g2⟩
  · obtain ⟨i, g1, g2⟩ := p1 j (by omega)
    rw [po j (by omega), ← g2, so _ (nk i g1)]
    by_cases q : j + 1 = d.toNat
    · rw [q, pd, ky, sk]
      have := (h3 _ (b0 i g1)).2
      omega
    · obtain ⟨i2, g3, g4⟩ := p1 (j + 1) (by omega)
      rw [po (j + 1) q, ← g4, so _ (nk i2 g3)]
      rw [g2, g4]
      exact p2 j (by omega)
  · by_cases q : 0 < d
    · obtain ⟨i, g1, g2⟩ := p1 0 (by omega)
      rw [po 0 (by omega), ho 0 (by omega)]
      exact p3 q
    · have e : d.toNat = 0 := by omega
      have e9 : H.toNat = 0 := by
        have := d0 (by omega)
        omega
      rw [e] at pd
      rw [e9] at hH
      rw [pd, hH]
  · by_cases q : i = k
    · subst q
      have z : cu' i = wf i := by rw [e3]; exact if_pos rfl
      rw [z]
      exact ⟨Int.le_refl _, w i hi⟩
    · have z : cu' i = cu i := by rw [e3]; exact if_neg q
      rw [z]
      rw [so i q] at a
      exact u i hi a
  · have q := sgI_up (f := fun k => if sn k = 0 then (wf (k + 1)).toInt - (wf k).toInt + 1 else (wf (k + 1)).toInt - (cu k).toInt) (g := fun k => if sn' k = 0 then (wf (k + 1)).toInt - (wf k).toInt + 1 else (wf (k + 1)).toInt - (cu' k).toInt) (j := k) (d := -1) hk (fun i _ hi => by
      have z : cu' i = cu i := by rw [e3]; exact if_neg hi
      show (if sn' i = 0 then (wf (i + 1)).toInt - (wf i).toInt + 1 else (wf (i + 1)).toInt - (cu' i).toInt) = _
      rw [z, so i hi]) (by
      have z : cu' k = wf k := by rw [e3]; exact if_pos rfl
      show (if sn' k = 0 then (wf (k + 1)).toInt - (wf k).toInt + 1 else (wf (k + 1)).toInt - (cu' k).toInt) = (if sn k = 0 then (wf (k + 1)).toInt - (wf k).toInt + 1 else (wf (k + 1)).toInt - (cu k).toInt) + -1
      rw [z, sk, if_neg x0, if_pos hs]
      omega)
    unfold tjF
    omega
/-- states taken from the heap -/
def tiR (hp ko od ko' od' : Nat → Int32) (K : Int32) (H H' P P' : Int) : Prop := (H' ≤ H ∧ P' + H' = P + H) ∧ (∀ i : Nat, H' ≤ (i : Int) → (i : Int) < H → ko' (hp i).toNatClampNeg = K) ∧ (∀ s, (∀ i : Nat, H' ≤ (i : Int) → (i : Int) < H → (hp i).toNatClampNeg ≠ s) → ko' s = ko s) ∧ (∀ j : Nat, (j : Int) < P → od' j = od j) ∧ (∀ j : Nat, P ≤ (j : Int) → (j : Int) < P' → ∃ i : Nat, (H' ≤ (i : Int) ∧ (i : Int) < H) ∧ od' j = hp i) ∧ (∀ i : Nat, H' ≤ (i : Int) → (i : Int) < H → ∃ j : Nat, (P ≤ (j : Int) ∧ (j : Int) < P') ∧ od' j = hp i)
theorem tiR_0 {hp ko od : Nat → Int32} {K : Int32} {H P : Int} : tiR hp ko od ko od K H H P P := ⟨⟨Int.le_refl _, rfl⟩, fun i h1 h2 => by omega, fun _ _ => rfl, fun _ _ => rfl, fun j h1 h2 => by omega, fun i h1 h2 => by omega⟩
theorem tiR_s {hp ko od ko' od' ko2 od2 : Nat → Int32} {K x : Int32} {H H' P P' : Int} (h : tiR hp ko od ko' od' K H H' P P') (hH : 0 < H') (hP : 0 ≤ P) (ex : x = hp (H' - 1).toNat) (e1 : ko2 = upd ko' x.toNatClampNeg K) (e2 : od2 = upd od' P'.toNat x) : tiR hp ko od ko2 od2 K H (H' - 1) P (P' + 1) := by
  obtain ⟨a, b, c, d, e, f⟩ := h
  have oP : od2 P'.toNat = x := by rw [e2]; exact if_pos rfl
  have oj : ∀ j, j ≠ P'.toNat → od2 j = od' j := fun j hj => by rw [e2]; exact if_neg hj
  have kx : ko2 x.toNatClampNeg = K := by rw [e1]; exact if_pos rfl
  have ks : ∀ s, s ≠ x.toNatClampNeg → ko2 s = ko' s := fun s hs => by rw [e1]; exact if_neg hs
  refine ⟨by omega, fun i h1 h2 => ?_, fun s hs => ?_, fun j hj => ?_, fun j h1 h2 => ?_, fun i h1 h2 => ?_⟩
  · by_cases z : (hp i).toNatClampNeg = x.toNatClampNeg
    · rw [z]; exact kx
    · rw [ks _ z]
      refine b i ?_ h2
      by_cases y : i = (H' - 1).toNat
      · rw [y, ← ex] at z
        exact absurd rfl z
      · omega
  · have y := hs (H' - 1).toNat (by omega) (by omega)
    rw [← ex] at y
    rw [ks s (fun z => y z.symm)]
    exact c s (fun i h1 h2 => hs i (by omega) h2)
  · rw [oj j (by omega)]; exact d j hj
  · by_cases z : j = P'.toNat
    · exact ⟨(H' - 1).toNat, by omega, by rw [z, oP, ex]⟩
    · obtain ⟨i, g1, g2⟩ := e j h1 (by omega)
      exact ⟨i, by omega, by rw [oj j z]; exact g2⟩
  · by_cases z : i = (H' - 1).toNat
    · exact ⟨P'.toNat, by omega, by rw [z, oP, ex]⟩
    · obtain ⟨j, g1, g2⟩ := f i (by omega) h2
      exact ⟨j, by omega, by rw [oj j (by omega)]; exact g2⟩
/-- a knot is tied -/
theorem tj_t {n k pos : Nat} {sn lw pa hp ko od kf ko' od' kf' : Nat → Int32} {H P P' S K d : Int} {K9 p9 : Int32} (c : tjC n sn H P S K (d + 1)) (d0 : 0 ≤ d) (h : tjH n sn lw hp ko H S) (p : tjP sn pa hp H d) (o : tjO n ko od kf P K) (hq : (pos : Int) < H) (ek : (hp pos).toNatClampNeg = k) (hk : ∀ j : Nat, (j : Int) < d → (sn (pa j).toNatClampNeg).toInt < (sn k).toInt) (hd : d = 0 → pos = 0) (R : tiR hp ko od ko' od' K9 H pos P P') (eK : K9.toInt = K) (ep : p9.toInt = P) (ef : kf' = upd kf K.toNat p9) : tjC n sn pos P' S (K + 1) d ∧ tjH n sn lw hp ko' pos S ∧ tjP sn pa hp pos d ∧ tjO n ko' od' kf' P' (K + 1) ∧ (d = 0 → (pos : Int) = 0) := by
  obtain ⟨c1, c2, c3, c4⟩ := c
  obtain ⟨r1, r2, r3, r4, r5, r6⟩ := R
  have kK : K9.toNatClampNeg = K.toNat := by
    have := cnk (x := K9) (by omega)
    omega
  have nm : K9 ≠ -1 := fun z => by rw [z, tmi] at eK; omega
  have hn0 : ∀ i : Nat, (i : Int) < pos → ko' (hp i).toNatClampNeg = ko (hp i).toNatClampNeg := fun i hi => r3 _ (fun j h1 h2 z => by
    have := tjH_i h (by omega) (by omega) z
    omega)
  have hb := h
  obtain ⟨h1, h2, h3, h4, h5⟩ := h
  obtain ⟨p1, p2, p3⟩ := p
  obtain ⟨o1, o2, o3⟩ := o
  have fK : kf' K.toNat = p9 := by rw [ef]; exact if_pos rfl
  have fc : ∀ x, x ≠ K.toNat → kf' x = kf x := fun x hx => by rw [ef]; exact if_neg hx
  have oh : ∀ i : Nat, (i : Int) < P → ko' (od i).toNatClampNeg = ko (od i).toNatClampNeg := fun i hi => r3 _ (fun j g1 g2 z => by
    have a := (h1 j g2).2.2.1
    rw [z] at a
    have b := (o1 i hi).2.1.1
    rw [a, tmi] at b
    omega)
  refine ⟨⟨by omega, by omega, c3, by omega⟩, ⟨fun i hi => ?_, fun i hi => h2 i (by omega), h3, fun s hs a b => ?_, fun s hs a => ?_⟩, ⟨fun j hj => ?_, p2, p3⟩, ⟨fun i hi => ?_, fun x hx => ?_, fun s hs a => ?_⟩, fun z => by have := hd z; omega⟩
  · obtain ⟨a, b, c, d, f⟩ := h1 i (by omega)
    rw [hn0 i hi]
    exact ⟨a, b, c, d, f⟩
  · have np : ∀ i : Nat, (pos : Int) ≤ (i : Int) → (i : Int) < H → (hp i).toNatClampNeg ≠ s := fun i g1 g2 z => by
      have y := r2 i g1 g2
      rw [z, b] at y
      exact nm y.symm
    rw [r3 s np] at b
    obtain ⟨i, g1, g2⟩ := h4 s hs a b
    refine ⟨i, ?_, g2⟩
    by_cases z : (pos : Int) ≤ (i : Int)
    · exact absurd g2 (np i z g1)
    · omega
  · rw [r3 s (fun i g1 g2 z => by
      have y := (h1 i g2).2.1
      rw [z] at y
      exact y a)]
    exact h5 s hs a
  · obtain ⟨i, g1, g2⟩ := p1 j hj
    refine ⟨i, ?_, g2⟩
    by_cases z : pos ≤ i
    · have a := hk j hj
      rw [← g2, ← ek] at a
      by_cases y : pos = i
      · rw [y] at a; omega
      · have := tjH_m hb (i := pos) (j := i) (by omega) g1
        omega
    · omega
  · by_cases z : (i : Int) < P
    · obtain ⟨a, b, c, d⟩ := o1 i z
      have kb := cnk b.1
      rw [r4 i z, oh i z]
      refine ⟨a, by omega, ?_, fun y => ?_⟩
      · rw [fc _ (by omega)]; exact c
      · by_cases y2 : (ko (od i).toNatClampNeg).toNatClampNeg + 1 = K.toNat
        · rw [y2, fK]; omega
        · rw [fc _ y2]; exact d (by omega)
    · obtain ⟨x, g1, g2⟩ := r5 i (by omega) hi
      rw [g2, r2 x g1.1 g1.2, kK, fK]
      exact ⟨(h1 x g1.2).1, by omega, by omega, fun y => by omega⟩
  · by_cases z : (x : Int) < K
    · obtain ⟨a, b⟩ := o2 x z
      rw [fc x (by omega)]
      refine ⟨by omega, fun y => ?_⟩
      by_cases y2 : x + 1 = K.toNat
      · rw [y2, fK]; omega
      · rw [fc (x + 1) y2]; exact b (by omega)
    · have e : x = K.toNat := by omega
      rw [e, fK]
      exact ⟨by omega, fun y => by omega⟩
  · by_cases z : ∃ i : Nat, (pos : Int) ≤ (i : Int) ∧ (i : Int) < H ∧ (hp i).toNatClampNeg = s
    · obtain ⟨i, g1, g2, g3⟩ := z
      obtain ⟨j, q1, q2⟩ := r6 i g1 g2
      exact ⟨j, q1.2, by rw [q2]; exact g3⟩
    · rw [r3 s (fun i g1 g2 y => z ⟨i, g1, g2, y⟩)] at a
      obtain ⟨i, g1, g2⟩ := o3 s hs a
      exact ⟨i, by omega, by rw [r4 i g1]; exact g2⟩

end
section
set_option maxHeartbeats 1600000
/-! the class: Web's visit, tie -/
abbrev knF (a : Nat) : Nat → Nat → Prop := fun f x => x = a ∧ 1407 ≤ f
/-- only what the knots are kept in was written -/
def knE (κ τ : zS) (a : Nat) : Prop := zF (knF a) κ τ ∧ zR τ = zR κ ∧ zN τ = zN κ
theorem knE.rf {κ : zS} {a : Nat} : knE κ κ a := ⟨zF.rf, rfl, rfl⟩
theorem knE.tr {κ τ σ : zS} {a : Nat} (h : knE κ τ a) (g : knE τ σ a) : knE κ σ a := ⟨h.1.tr g.1, g.2.1.trans h.2.1, g.2.2.trans h.2.2⟩
theorem kn_u {C : zC} {n0 a f i : Nat} {κ τ : zS} {x : Int32} (W : zW C n0 κ) (T : zT κ a = 14) (hf : f ∈ weRf) (h7 : 1407 ≤ f) (e : τ = ua κ (zR κ f a) i x) : knE κ τ a ∧ zI τ = zI κ ∧ zA τ (zR κ f a) = upd (zA κ (zR κ f a)) i x ∧ (∀ g, g ∈ weRf → g ≠ f → zA τ (zR κ g a) = zA κ (zR κ g a)) ∧ zT τ a = 14 := by
  have o := weRf_o W T hf
  have u := we_u W T hf e
  exact ⟨⟨by rw [e]; exact zF_ua (by rw [o]; exact ⟨rfl, h7⟩), u.1.2.1, u.1.2.2.2⟩, u.1.2.2.1, u.2.1, u.2.2.1, u.2.2.2⟩
theorem kn_i {a f : Nat} {κ τ : zS} {x : Int32} (h7 : 1407 ≤ f) (e : τ = ui κ f a x) : knE κ τ a ∧ zA τ = zA κ ∧ zI τ f a = x ∧ (∀ g, g ≠ f → zI τ g a = zI κ g a) ∧ zT τ = zT κ := ⟨⟨by rw [e]; exact zF_ui ⟨rfl, h7⟩, by rw [e]; rfl, by rw [e]; rfl⟩, by rw [e]; rfl, by rw [e]; exact if_pos ⟨rfl, rfl⟩, fun g hg => by rw [e]; exact if_neg (fun z => hg z.1), by rw [e]; rfl⟩
theorem kn_r {C : zC} {n0 a f : Nat} {κ τ : zS} (W : zW C n0 κ) (T : zT κ a = 14) (h : knE κ τ a) (hf : f ∈ weRf) (h7 : f < 1407) : zA τ (zR κ f a) = zA κ (zR κ f a) := by
  obtain ⟨⟨t, h1, h2⟩, h3⟩ := weRf_r f hf
  have q := (h.1.row W h1 h2 (T.trans h3.symm) (fun z => by have := z.2; omega)).1
  rw [h.2.1] at q
  exact q
theorem weM_K {κ τ : zS} {a : Nat} (h : knE κ τ a) (M : weM κ a) : weM τ a := by unfold weM; rw [h.2.1, h.2.2]; exact M
def visR (κ τ : zS) (a k : Nat) (y : Int32) (d : Nat) : Prop := knE κ τ a ∧ zA τ (zR κ weSeen a) = upd (zA κ (zR κ weSeen a)) k (zI κ weStamp a + 1) ∧ zA τ (zR κ weLow a) = upd (zA κ (zR κ weLow a)) k (zI κ weStamp a + 1) ∧ zA τ (zR κ weCursor a) = upd (zA κ (zR κ weCursor a)) k (zA κ (zR κ weFirsts a) k) ∧ zA τ (zR κ wePath a) = upd (zA κ (zR κ wePath a)) d y ∧ zA τ (zR κ weHeap a) = upd (zA κ (zR κ weHeap a)) (zI κ weHeaped a).toNatClampNeg y ∧ (zA τ (zR κ weKnotOf a) = zA κ (zR κ weKnotOf a) ∧ zA τ (zR κ weOrder a) = zA κ (zR κ weOrder a) ∧ zA τ (zR κ weKnotFirsts a) = zA κ (zR κ weKnotFirsts a)) ∧ zI τ weStamp a = zI κ weStamp a + 1 ∧ zI τ weHeaped a = zI κ weHeaped a + 1 ∧ zI τ wePlaced a = zI κ wePlaced a ∧ zI τ weKnots a = zI κ weKnots a
theorem We_visit_c {C : zC} {n0 : Nat} {a0 : Nat} {a1 : Int32} {a2 : Int32} {κ : zS} {Q : zS → Prop} (W : zW C n0 κ) (Ta0 : zT κ a0 = 14)  (hp : weM κ a0 ∧ (0 ≤ a1.toInt ∧ a1.toInt < 1000) ∧ (0 ≤ a2.toInt ∧ a2.toInt < 1000) ∧ (0 ≤ (zI κ weHeaped a0).toInt ∧ (zI κ weHeaped a0).toInt < 1000)) (h : ∀ (κ' : zS), (visR κ κ' a0 a1.toNatClampNeg a1 a2.toNatClampNeg) → Q κ') : zRun C 0 mWe_visit [.ref a0, .int a1, .int a2] κ (oV Q noX) := by
  refine We_visit_run W Ta0 ?_
  replace W := W.lo (Nat.le_trans W.1.2.1 W.1.2.2) (Nat.le_refl (zn κ))
  unfold w_We_visit_0
  obtain ⟨M, k1, k2, k3⟩ := hp
  obtain ⟨M1, M2, M3, M4, M5, M6, M7, M8, M9, M10, M11⟩ := M
  intro κ_1 hκ_1
  intro W2
  obtain ⟨x1, x2, x3, x4, x5⟩ := kn_i (f := weStamp) (by decide) hκ_1
  have T1 : zT κ_1 a0 = 14 := by rw [x5]; exact Ta0
  refine ⟨?_, ?_⟩
  · rw [x1.2.1, x1.2.2, inb_iff]; omega  -- b1
  intro κ_3 hκ_3
  intro W4
  obtain ⟨u1, u2, u3, u4, u5⟩ := kn_u W2 T1 (f := weSeen) (by decide) (by decide) hκ_3
  have e3 := x1.tr u1
  refine ⟨?_, ?_⟩
  · rw [e3.2.1, e3.2.2, inb_iff]; omega  -- b2
  intro κ_5 hκ_5
  intro W6
  obtain ⟨v1, v2, v3, v4, v5⟩ := kn_u W4 u5 (f := weLow) (by decide) (by decide) hκ_5
  have e5 := e3.tr v1
  refine ⟨?_, ?_⟩
  · rw [e5.2.1, e5.2.2, inb_iff]; omega  -- b3
  refine ⟨?_, ?_⟩
  · rw [e5.2.1, e5.2.2, inb_iff]; omega  -- b4
  intro κ_7 hκ_7
  intro W8
  obtain ⟨w1, w2, w3, w4, w5⟩ := kn_u W6 v5 (f := weCursor) (by decide) (by decide) hκ_7
  have e7 := e5.tr w1
  refine ⟨?_, ?_⟩
  · rw [e7.2.1, e7.2.2, inb_iff]; omega  -- b5
  intro κ_9 hκ_9
  intro W10
  obtain ⟨p1, p2, p3, p4, p5⟩ := kn_u W8 w5 (f := wePath) (by decide) (by decide) hκ_9
  have e9 := e7.tr p1
  have i9 : zI κ_9 = zI κ_1 := p2.trans (w2.trans (v2.trans u2))
  refine ⟨?_, ?_⟩
  · rw [e9.2.1, e9.2.2, i9, x4 weHeaped (by decide), inb_iff]; omega  -- b6
  intro κ_11 hκ_11
  intro W12
  intro κ_13 hκ_13
  intro W14
  refine h _ ?_
  · obtain ⟨q1, q2, q3, q4, q5⟩ := kn_u W10 p5 (f := weHeap) (by decide) (by decide) hκ_11
    obtain ⟨y1, y2, y3, y4, y5⟩ := kn_i (f := weHeaped) (by decide) hκ_13
    have i11 : zI κ_11 = zI κ_1 := q2.trans i9
    have r1 := x1.2.1
    rw [x1.2.1] at u3 u4
    rw [e3.2.1] at v3 v4
    rw [e5.2.1] at w3 w4
    rw [e7.2.1] at p3 p4
    rw [e9.2.1] at q3 q4
    rw [x2] at u3 u4
    rw [x3] at u3
    rw [u2, x3] at v3
    have fr : zA κ_5 (zR κ weFirsts a0) = zA κ (zR κ weFirsts a0) := by rw [v4 weFirsts (by decide) (by decide), u4 weFirsts (by decide) (by decide)]
    rw [fr] at w3
    rw [i9, x4 weHeaped (by decide)] at q3
    have gS : ∀ f, f ∈ weRf → f ≠ weHeap → f ≠ wePath → f ≠ weCursor → f ≠ weLow → f ≠ weSeen → zA κ_13 (zR κ f a0) = zA κ (zR κ f a0) := fun f h1 h2 h3 h4 h5 h6 => by rw [y2, q4 f h1 h2, p4 f h1 h3, w4 f h1 h4, v4 f h1 h5, u4 f h1 h6]
    refine ⟨(e9.tr q1).tr y1, ?_, ?_, ?_, ?_, ?_, ⟨gS weKnotOf (by decide) (by decide) (by decide) (by decide) (by decide) (by decide), gS weOrder (by decide) (by decide) (by decide) (by decide) (by decide) (by decide), gS weKnotFirsts (by decide) (by decide) (by decide) (by decide) (by decide) (by decide)⟩, ?_, ?_, ?_, ?_⟩
    · rw [y2, q4 weSeen (by decide) (by decide), p4 weSeen (by decide) (by decide), w4 weSeen (by decide) (by decide), v4 weSeen (by decide) (by decide), u3]
    · rw [y2, q4 weLow (by decide) (by decide), p4 weLow (by decide) (by decide), w4 weLow (by decide) (by decide), v3, u4 weLow (by decide) (by decide)]
    · rw [y2, q4 weCursor (by decide) (by decide), p4 weCursor (by decide) (by decide), w3, v4 weCursor (by decide) (by decide), u4 weCursor (by decide) (by decide)]
    · rw [y2, q4 wePath (by decide) (by decide), p3, w4 wePath (by decide) (by decide), v4 wePath (by decide) (by decide), u4 wePath (by decide) (by decide)]
    · rw [y2, q3, p4 weHeap (by decide) (by decide), w4 weHeap (by decide) (by decide), v4 weHeap (by decide) (by decide), u4 weHeap (by decide) (by decide)]
    · rw [y4 weStamp (by decide), i11, x3]
    · rw [y3, i11, x4 weHeaped (by decide)]
    · rw [y4 wePlaced (by decide), i11, x4 wePlaced (by decide)]
    · rw [y4 weKnots (by decide), i11, x4 weKnots (by decide)]

abbrev tiL : List Nat := [weSeen, weLow, weCursor, wePath, weHeap]
/-- on the way to a knot -/
def tiS (κ τ : zS) (a : Nat) : Prop := knE κ τ a ∧ (∀ f, f ∈ tiL → zA τ (zR κ f a) = zA κ (zR κ f a)) ∧ zA τ (zR κ weKnotFirsts a) = upd (zA κ (zR κ weKnotFirsts a)) (zI κ weKnots a).toNatClampNeg (zI κ wePlaced a) ∧ zI τ weStamp a = zI κ weStamp a ∧ tiR (zA κ (zR κ weHeap a)) (zA κ (zR κ weKnotOf a)) (zA κ (zR κ weOrder a)) (zA τ (zR κ weKnotOf a)) (zA τ (zR κ weOrder a)) (zI κ weKnots a) ((zI κ weHeaped a).toInt) ((zI τ weHeaped a).toInt) ((zI κ wePlaced a).toInt) ((zI τ wePlaced a).toInt)
theorem tiL_w : ∀ f, f ∈ tiL → f ∈ weRf ∧ f ≠ weKnotOf ∧ f ≠ weOrder ∧ f ≠ weKnotFirsts := by decide
theorem tiS_s {C : zC} {n0 a : Nat} {κ σ κ1 κ2 κ3 κ4 : zS} {x : Int32} (W1 : zW C n0 κ1) (W2 : zW C n0 κ2) (T : zT σ a = 14) (H : tiS κ σ a) (ek : zI σ weKnots a = zI κ weKnots a) (h0 : 0 < (zI σ weHeaped a).toInt) (p0 : 0 ≤ (zI κ wePlaced a).toInt) (pb : (zI κ wePlaced a).toInt + (zI κ weHeaped a).toInt ≤ 1000) (e1 : κ1 = ui σ weHeaped a (zI σ weHeaped a - 1)) (ex : x = zA κ1 (zR κ1 weHeap a) (zI κ1 weHeaped a).toNatClampNeg) (e2 : κ2 = ua κ1 (zR κ1 weKnotOf a) x.toNatClampNeg (zI κ1 weKnots a)) (e3 : κ3 = ua κ2 (zR κ2 weOrder a) (zI κ2 wePlaced a).toNatClampNeg x) (e4 : κ4 = ui κ3 wePlaced a (zI κ3 wePlaced a + 1)) : tiS κ κ4 a ∧ zI κ4 weKnots a = zI κ weKnots a ∧ (zI κ4 weHeaped a).toInt = (zI σ weHeaped a).toInt - 1 ∧ x = zA κ (zR κ weHeap a) ((zI σ weHeaped a).toInt - 1).toNat ∧ zT κ4 a = 14 := by
  obtain ⟨E, L, F, S, R⟩ := H
  obtain ⟨x1, x2, x3, x4, x5⟩ := kn_i (f := weHeaped) (by decide) e1
  have T1 : zT κ1 a = 14 := by rw [x5]; exact T
  obtain ⟨u1, u2, u3, u4, u5⟩ := kn_u W1 T1 (f := weKnotOf) (by decide) (by decide) e2
  obtain ⟨v1, v2, v3, v4, v5⟩ := kn_u W2 u5 (f := weOrder) (by decide) (by decide) e3
  obtain ⟨y1, y2, y3, y4, y5⟩ := kn_i (f := wePlaced) (by decide) e4
  have E1 := E.tr x1
  have E2 := E1.tr u1
  have r1 := E1.2.1
  have r2 := E2.2.1
  rw [r1, x2] at u3 u4
  rw [r2] at v3 v4
  rw [r1, x2] at ex
  have d1 : (zI σ weHeaped a - 1).toInt = (zI σ weHeaped a).toInt - 1 := dec_i h0
  rw [x3] at ex
  have hh := L weHeap (by decide)
  have n1 : (zI σ weHeaped a - 1).toNatClampNeg = ((zI σ weHeaped a).toInt - 1).toNat := by
    have := cnk (x := zI σ weHeaped a - 1) (by omega)
    omega
  rw [hh, n1] at ex
  have pl : zI κ2 wePlaced a = zI σ wePlaced a := by rw [u2, x4 wePlaced (by decide)]
  have pl3 : zI κ3 wePlaced a = zI σ wePlaced a := by rw [v2, pl]
  have kn : zI κ1 weKnots a = zI κ weKnots a := by rw [x4 weKnots (by decide), ek]
  have R1 := R.1
  have pe := cn1 (x := zI σ wePlaced a) (by omega) (by omega)
  have pn : (zI σ wePlaced a).toNatClampNeg = (zI σ wePlaced a).toInt.toNat := rfl
  rw [kn] at u3
  rw [pl, pn] at v3
  have o2 : zA κ2 (zR κ weOrder a) = zA σ (zR κ weOrder a) := u4 weOrder (by decide) (by decide)
  rw [o2] at v3
  have ko4 : zA κ4 (zR κ weKnotOf a) = upd (zA σ (zR κ weKnotOf a)) x.toNatClampNeg (zI κ weKnots a) := by rw [y2, v4 weKnotOf (by decide) (by decide), u3]
  have od4 : zA κ4 (zR κ weOrder a) = upd (zA σ (zR κ weOrder a)) (zI σ wePlaced a).toInt.toNat x := by rw [y2, v3]
  have hp4 : (zI κ4 weHeaped a).toInt = (zI σ weHeaped a).toInt - 1 := by rw [y4 weHeaped (by decide), v2, u2, x3, d1]
  have pl4 : (zI κ4 wePlaced a).toInt = (zI σ wePlaced a).toInt + 1 := by rw [y3, pl3, pe.2]
  refine ⟨⟨(E2.tr v1).tr y1, fun f hf => ?_, ?_, ?_, ?_⟩, ?_, hp4, ex, by rw [y5]; exact v5⟩
  · obtain ⟨g1, g2, g3, g4⟩ := tiL_w f hf
    rw [y2, v4 f g1 g3, u4 f g1 g2]
    exact L f hf
  · rw [y2, v4 weKnotFirsts (by decide) (by decide), u4 weKnotFirsts (by decide) (by decide)]
    exact F
  · rw [y4 weStamp (by decide), v2, u2, x4 weStamp (by decide)]; exact S
  · rw [hp4, pl4]
    exact tiR_s R h0 p0 ex ko4 od4
  · rw [y4 weKnots (by decide), v2, u2, kn]
theorem We_tie_c {C : zC} {n0 : Nat} {a0 : Nat} {a1 : Int32} {κ : zS} {Q : zS → Prop} (W : zW C n0 κ) (Ta0 : zT κ a0 = 14) (pos m9 : Nat) (hp : weM κ a0 ∧ ((zI κ weTotal a0).toInt = (m9 : Int) ∧ m9 ≤ 1000) ∧ (0 ≤ (zI κ weKnots a0).toInt ∧ (zI κ weKnots a0).toInt ≤ 1000) ∧ 0 ≤ (zI κ wePlaced a0).toInt ∧ (pos : Int) < (zI κ weHeaped a0).toInt ∧ (zI κ wePlaced a0).toInt + (zI κ weHeaped a0).toInt ≤ m9 ∧ (∀ i : Nat, (i : Int) < (zI κ weHeaped a0).toInt → 0 ≤ (zA κ (zR κ weHeap a0) i).toInt ∧ (zA κ (zR κ weHeap a0) i).toInt < m9) ∧ zA κ (zR κ weHeap a0) pos = a1 ∧ ∀ i : Nat, (i : Int) < (zI κ weHeaped a0).toInt → zA κ (zR κ weHeap a0) i = a1 → i = pos) (h : ∀ (κ' : zS), (tiS κ κ' a0 ∧ (zI κ' weHeaped a0).toInt = (pos : Int) ∧ (zI κ' weKnots a0).toInt = (zI κ weKnots a0).toInt + 1) → Q κ') : zRun C 0 mWe_tie [.ref a0, .int a1] κ (oV Q noX) := by
  refine We_tie_run W Ta0 ?_
  replace W := W.lo (Nat.le_trans W.1.2.1 W.1.2.2) (Nat.le_refl (zn κ))
  unfold w_We_tie_0
  obtain ⟨M, ⟨tn, n1⟩, kb, p0, ph, pb, hr, he, hu⟩ := hp
  obtain ⟨M1, M2, M3, M4, M5, M6, M7, M8, M9, M10, M11⟩ := M
  have hj107 : ∀ (l0 : Nat) (τ : zS), zW C (zn κ) τ → zT τ l0 = 14 → (a0 = l0 ∧ tiS κ τ a0 ∧ zI τ weKnots a0 = zI κ weKnots a0 ∧ (zI τ weHeaped a0).toInt = (pos : Int)) → w_We_tie_107 C (zn κ) Q  l0 τ := by
    rintro _ τ107 W107 T107_0 ⟨rfl, j107⟩
    unfold w_We_tie_107
    intro κ_1 hκ_1
    intro W2
    refine h _ ?_
    · obtain ⟨S9, k9, h9⟩ := j107
      obtain ⟨y1, y2, y3, y4, y5⟩ := kn_i (f := weKnots) (by decide) hκ_1
      have ke := cn1 (x := zI κ weKnots a0) kb.1 (by omega)
      obtain ⟨s1, s2, s3, s4, s5⟩ := S9
      refine ⟨⟨s1.tr y1, fun f hf => by rw [y2]; exact s2 f hf, by rw [y2]; exact s3, by rw [y4 weStamp (by decide)]; exact s4, ?_⟩, by rw [y4 weHeaped (by decide)]; exact h9, by rw [y3, k9, ke.2]⟩
      rw [y2, y4 weHeaped (by decide), y4 wePlaced (by decide)]
      exact s5
  refine ⟨?_, ?_⟩
  · rw [inb_iff]; omega  -- b2
  intro κ_3 hκ_3
  intro W4
  unfold w_We_tie_17
  refine ⟨fun n l0 l1 l2 l3 τ => n = (1000 - l3.toInt).toNat ∧ (a0 = l0 ∧ a1 = l1 ∧ tiS κ τ a0 ∧ zI τ weKnots a0 = zI κ weKnots a0 ∧ (pos : Int) ≤ (zI τ weHeaped a0).toInt ∧ (0 ≤ l3.toInt ∧ l3.toInt = (zI κ weHeaped a0).toInt - (zI τ weHeaped a0).toInt) ∧ (l2 ≠ 0 → (pos : Int) < (zI τ weHeaped a0).toInt) ∧ (l2 = 0 → (zI τ weHeaped a0).toInt = (pos : Int))), ⟨_, rfl, ?_⟩, ?_⟩
  · obtain ⟨u1, u2, u3, u4, u5⟩ := kn_u W Ta0 (f := weKnotFirsts) (by decide) (by decide) hκ_3
    refine ⟨rfl, rfl, ⟨u1, fun f hf => u4 f (tiL_w f hf).1 (tiL_w f hf).2.2.2, u3, by rw [u2], ?_⟩, by rw [u2], by rw [u2]; omega, ⟨by decide, by rw [u2, t0i]; omega⟩, fun _ => by rw [u2]; exact ph, fun z => absurd z (by decide)⟩
    rw [u2, u4 weKnotOf (by decide) (by decide), u4 weOrder (by decide) (by decide)]
    exact tiR_0
  rintro n17 _ _ x17_2 x17_3 κ17 W17 T17_0 ⟨hn17, rfl, rfl, i17⟩
  obtain ⟨S17, k17, p17, l17, c2a, c2b⟩ := i17
  have E17 := S17.1
  have tt : (zI κ17 weTotal a0).toInt = (m9 : Int) := by rw [E17.1.i (fun z => absurd z.2 (by decide))]; exact tn
  have hj100 : ∀ (l0 : Nat) (l1 : Int32) (l3 : Int32) (s0 : Int32) (τ : zS), zW C (zn κ) τ → zT τ l0 = 14 → (a0 = l0 ∧ a1 = l1 ∧ tiS κ τ a0 ∧ zI τ weKnots a0 = zI κ weKnots a0 ∧ (pos : Int) ≤ (zI τ weHeaped a0).toInt ∧ x17_3 = l3 ∧ (x17_3.toInt + 1 = (zI κ weHeaped a0).toInt - (zI τ weHeaped a0).toInt) ∧ (s0 ≠ 0 → (pos : Int) < (zI τ weHeaped a0).toInt) ∧ (s0 = 0 → (zI τ weHeaped a0).toInt = (pos : Int))) → w_We_tie_100 C (zn κ) Q (fun (l0' : Nat) (l1' : Int32) (l2' : Int32) (l3' : Int32) (τ : zS) => ∃ k < n17, (fun (n : Nat) (l0 : Nat) (l1 : Int32) (l2 : Int32) (l3 : Int32) (τ : zS) => n = (1000 - l3.toInt).toNat ∧ (a0 = l0 ∧ a1 = l1 ∧ tiS κ τ a0 ∧ zI τ weKnots a0 = zI κ weKnots a0 ∧ (pos : Int) ≤ (zI τ weHeaped a0).toInt ∧ (0 ≤ l3.toInt ∧ l3.toInt = (zI κ weHeaped a0).toInt - (zI τ weHeaped a0).toInt) ∧ (l2 ≠ 0 → (pos : Int) < (zI τ weHeaped a0).toInt) ∧ (l2 = 0 → (zI τ weHeaped a0).toInt = (pos : Int)))) k l0' l1' l2' l3' τ) l0 l1 l3 s0 τ := by
    rintro _ _ y100_3 y100_s0 τ100 W100 T100_0 ⟨rfl, rfl, j100⟩
    unfold w_We_tie_100
    intro x5 hx5
    obtain ⟨S9, k9, p9, rfl, l9, ca, cb⟩ := j100
    have e1 := cn1 l17.1 (by have := S9.2.2.2.2.1.1; omega)
    refine ⟨_, ?_, rfl, ?_⟩
    · rw [hn17, hx5, e1.2]; omega  -- d4
    · exact ⟨rfl, rfl, S9, k9, p9, by rw [hx5, e1.2]; omega, ca, cb⟩  -- i5
  refine ⟨fun c6 => ?_, fun c6 => ?_⟩
  · skip
    refine hj107 _ _ W17 ?_ ?_
    · exact T17_0  -- t6
    · exact ⟨rfl, S17, k17, c2b c6⟩  -- k7
  · skip
    refine ⟨fun c7 => ?_, fun c7 => ?_⟩
    · skip
      refine hj107 _ _ W17 ?_ ?_
      · exact T17_0  -- t8
      · rw [lei, t0i] at c7
        have := c2a c6
        omega
    · skip
      refine ⟨fun c8 => ?_, fun c8 => ?_⟩
      · skip
        refine hj107 _ _ W17 ?_ ?_
        · exact T17_0  -- t10
        · rw [lei] at c8
          have := c2a c6
          omega
      · skip
        intro κ_9 hκ_9
        intro W10
        rw [lei, t0i] at c7
        rw [lei] at c8
        have h0 : 0 < (zI κ17 weHeaped a0).toInt := by omega
        have R1 := S17.2.2.2.2.1
        obtain ⟨x1, x2, x3, x4, x5⟩ := kn_i (f := weHeaped) (by decide) hκ_9
        have F1 := E17.tr x1
        have T9 : zT κ_9 a0 = 14 := by rw [x5]; exact T17_0
        have d1 : (zI κ17 weHeaped a0 - 1).toInt = (zI κ17 weHeaped a0).toInt - 1 := dec_i h0
        refine ⟨?_, ?_⟩
        · rw [F1.2.1, F1.2.2, x3, inb_iff, d1]; omega  -- b12
        intro x11 hx11
        have ex : x11 = zA κ (zR κ weHeap a0) ((zI κ17 weHeaped a0).toInt - 1).toNat := by
          rw [hx11, F1.2.1, x2, x3, S17.2.1 weHeap (by decide)]
          have := cnk (x := zI κ17 weHeaped a0 - 1) (by omega)
          congr 1
          omega
        have xr := hr ((zI κ17 weHeaped a0).toInt - 1).toNat (by omega)
        rw [← ex] at xr
        refine ⟨?_, ?_⟩
        · rw [F1.2.1, F1.2.2, inb_iff]; omega  -- b13
        intro κ_12 hκ_12
        intro W13
        obtain ⟨u1, u2, u3, u4, u5⟩ := kn_u W10 T9 (f := weKnotOf) (by decide) (by decide) hκ_12
        have F2 := F1.tr u1
        refine ⟨?_, ?_⟩
        · rw [F2.2.1, F2.2.2, u2, x4 wePlaced (by decide), inb_iff]; omega  -- b14
        intro κ_14 hκ_14
        intro W15
        intro κ_16 hκ_16
        intro W17
        obtain ⟨S9, k9, h9, x9, T16⟩ := tiS_s W10 W13 T17_0 S17 k17 h0 p0 (by omega) hκ_9 hx11 hκ_12 hκ_14 hκ_16
        refine ⟨fun c18 => ?_, fun c18 => ?_⟩
        · skip
          refine hj100 _ _ _ _ _ W17 ?_ ?_
          · exact T16  -- t15
          · have z := hu ((zI κ17 weHeaped a0).toInt - 1).toNat (by omega) (by rw [← x9]; exact c18)
            exact ⟨rfl, rfl, S9, k9, by omega, rfl, by omega, fun y => absurd rfl y, fun _ => by omega⟩
        · skip
          refine hj100 _ _ _ _ _ W17 ?_ ?_
          · exact T16  -- t17
          · have z : ((zI κ17 weHeaped a0).toInt - 1).toNat ≠ pos := fun y => c18 (by rw [x9, y]; exact he)
            have := c2a c6
            exact ⟨rfl, rfl, S9, k9, by omega, rfl, by omega, fun _ => by omega, fun y => absurd y (by decide)⟩

end
section
set_option maxHeartbeats 1600000
/-! the class: Web's follow, knot, sizeOf, isRing -/
/-- 64 bits -/
theorem jadd_i {x y : Int64} (h1 : -9223372036854775808 ≤ x.toInt + y.toInt) (h2 : x.toInt + y.toInt < 9223372036854775808) : (x + y).toInt = x.toInt + y.toInt := by
  rw [Int64.toInt_add]; exact Int.bmod_eq_of_le (by omega) (by omega)
theorem jsub_i {x y : Int64} (h1 : -9223372036854775808 ≤ x.toInt - y.toInt) (h2 : x.toInt - y.toInt < 9223372036854775808) : (x - y).toInt = x.toInt - y.toInt := by
  rw [Int64.toInt_sub]; exact Int.bmod_eq_of_le (by omega) (by omega)
theorem jmul_i {x y : Int64} (h1 : -9223372036854775808 ≤ x.toInt * y.toInt) (h2 : x.toInt * y.toInt < 9223372036854775808) : (x * y).toInt = x.toInt * y.toInt := by
  rw [Int64.toInt_mul]; exact Int.bmod_eq_of_le (by omega) (by omega)
theorem jlei {x y : Int64} : x ≤ y ↔ x.toInt ≤ y.toInt := Int64.le_iff_toInt_le
theorem jlti {x y : Int64} : x < y ↔ x.toInt < y.toInt := Int64.lt_iff_toInt_lt
def tjZ (τ : zS) (a n : Nat) (d : Int) : Prop := tjC n (zA τ (zR τ weSeen a)) ((zI τ weHeaped a).toInt) ((zI τ wePlaced a).toInt) ((zI τ weStamp a).toInt) ((zI τ weKnots a).toInt) d ∧ tjH n (zA τ (zR τ weSeen a)) (zA τ (zR τ weLow a)) (zA τ (zR τ weHeap a)) (zA τ (zR τ weKnotOf a)) ((zI τ weHeaped a).toInt) ((zI τ weStamp a).toInt) ∧ tjP (zA τ (zR τ weSeen a)) (zA τ (zR τ wePath a)) (zA τ (zR τ weHeap a)) ((zI τ weHeaped a).toInt) d ∧ tjO n (zA τ (zR τ weKnotOf a)) (zA τ (zR τ weOrder a)) (zA τ (zR τ weKnotFirsts a)) ((zI τ wePlaced a).toInt) ((zI τ weKnots a).toInt) ∧ tjU n (zA τ (zR τ weFirsts a)) (zA τ (zR τ weSeen a)) (zA τ (zR τ weCursor a))
def tjG (τ : zS) (a n : Nat) : Int := tjF n (zA τ (zR τ weFirsts a)) (zA τ (zR τ weSeen a)) (zA τ (zR τ weCursor a))
/-- who was seen is seen -/
def snG (κ τ : zS) (a n : Nat) : Prop := ∀ s, s < n → zA κ (zR κ weSeen a) s ≠ 0 → zA τ (zR τ weSeen a) s ≠ 0
theorem tjP_m {sn pa hp : Nat → Int32} {H d : Int} (p : tjP sn pa hp H d) : ∀ {j i : Nat}, i < j → (j : Int) < d → (sn (pa i).toNatClampNeg).toInt < (sn (pa j).toNatClampNeg).toInt := by
  intro j
  induction j with
  | zero => intro i h1; exact absurd h1 (Nat.not_lt_zero _)
  | succ j ih =>
    intro i h1 h2
    have a := p.2.1 j (by omega)
    by_cases z : i = j
    · rw [z]; exact a
    · have b := ih (i := i) (by omega) (by omega)
      omega
/-- a state is come to -/
theorem tjZ_v {C : zC} {n0 a n : Nat} {κ τ : zS} {x d9 : Int32} (W : zW C n0 κ) (T : zT κ a = 14) (hn : n ≤ 1000) (w : ∀ k, k < n → (zA κ (zR κ weFirsts a) k).toInt ≤ (zA κ (zR κ weFirsts a) (k + 1)).toInt) (Z : tjZ κ a n d9.toInt) (d0 : d9.toInt = 0 → (zI κ weHeaped a).toInt = 0) (hx : 0 ≤ x.toInt ∧ x.toInt < n) (hs : zA κ (zR κ weSeen a) x.toNatClampNeg = 0) (R : visR κ τ a x.toNatClampNeg x d9.toNatClampNeg) : tjZ τ a n (d9.toInt + 1) ∧ tjG τ a n = tjG κ a n - 1 ∧ snG κ τ a n ∧ zA τ (zR τ weSeen a) x.toNatClampNeg ≠ 0 ∧ 0 < (zI τ weHeaped a).toInt := by
  obtain ⟨c, h, p, o, u⟩ := Z
  obtain ⟨E, r1, r2, r3, r4, r5, ⟨s1, s2, s3⟩, i1, i2, i3, i4⟩ := R
  have kx := cnk hx.1
  have cc := c
  obtain ⟨c1, c2, c3, c4⟩ := c
  have cb := cBq_le (f := zA κ (zR κ weSeen a)) (n := n)
  have eS := cn1 (x := zI κ weStamp a) (by omega) (by omega)
  have eH := cn1 (x := zI κ weHeaped a) (by omega) (by omega)
  have wfr := kn_r W T E (f := weFirsts) (by decide) (by decide)
  have r := E.2.1
  have q := tj_v cc h p u d0 hn w (by omega) hs eS.2 kx.symm r1 r2 r3 r4 r5
  obtain ⟨q1, q2, q3, q4, q5⟩ := q
  refine ⟨?_, ?_, ?_, ?_, ?_⟩
  · unfold tjZ
    rw [r, i1, i2, i3, i4, s1, s2, s3, wfr, eS.2, eH.2]
    exact ⟨q1, q2, q3, o, q4⟩
  · unfold tjG
    rw [r, wfr]
    exact q5
  · intro s hs2 h9
    rw [r, r1]
    by_cases z : s = x.toNatClampNeg
    · rw [z] at h9
      exact absurd hs h9
    · have e : upd (zA κ (zR κ weSeen a)) x.toNatClampNeg (zI κ weStamp a + 1) s = zA κ (zR κ weSeen a) s := if_neg z
      rw [e]; exact h9
  · rw [r, r1]
    have e : upd (zA κ (zR κ weSeen a)) x.toNatClampNeg (zI κ weStamp a + 1) x.toNatClampNeg = zI κ weStamp a + 1 := if_pos rfl
    rw [e]
    intro z
    have y := eS.2
    rw [z, t0i] at y
    omega
  · rw [i2, eH.2]; omega
/-- a knot is tied -/
theorem tjZ_t {C : zC} {n0 a n pos : Nat} {κ τ : zS} {x : Int32} {d : Int} (W : zW C n0 κ) (T : zT κ a = 14) (hn : n ≤ 1000) (d0 : 0 ≤ d) (Z : tjC n (zA κ (zR κ weSeen a)) ((zI κ weHeaped a).toInt) ((zI κ wePlaced a).toInt) ((zI κ weStamp a).toInt) ((zI κ weKnots a).toInt) (d + 1) ∧ tjZ κ a n d) (hq : (pos : Int) < (zI κ weHeaped a).toInt) (ek : zA κ (zR κ weHeap a) pos = x) (hk : ∀ j : Nat, (j : Int) < d → (zA κ (zR κ weSeen a) (zA κ (zR κ wePath a) j).toNatClampNeg).toInt < (zA κ (zR κ weSeen a) x.toNatClampNeg).toInt) (hd : d = 0 → pos = 0) (S : tiS κ τ a) (h9 : (zI τ weHeaped a).toInt = (pos : Int)) (k9 : (zI τ weKnots a).toInt = (zI κ weKnots a).toInt + 1) : tjZ τ a n d ∧ tjG τ a n = tjG κ a n ∧ snG κ τ a n ∧ (d = 0 → (zI τ weHeaped a).toInt = 0) := by
  obtain ⟨cc, c, h, p, o, u⟩ := Z
  obtain ⟨E, L, F, St, R⟩ := S
  have wfr := kn_r W T E (f := weFirsts) (by decide) (by decide)
  have r := E.2.1
  rw [h9] at R
  have kn : (zI κ weKnots a).toNatClampNeg = (zI κ weKnots a).toInt.toNat := rfl
  rw [kn] at F
  obtain ⟨q1, q2, q3, q4, q5⟩ := tj_t (k := x.toNatClampNeg) cc d0 h p o hq (by rw [ek]) hk hd R rfl rfl F
  have gS := L weSeen (by decide)
  refine ⟨?_, ?_, fun s hs h7 => ?_, fun z => by rw [h9]; exact q5 z⟩
  · unfold tjZ
    rw [r, h9, k9, St, gS, L weLow (by decide), L weHeap (by decide), L wePath (by decide), L weCursor (by decide), wfr]
    exact ⟨q1, q2, q3, q4, u⟩
  · unfold tjG
    rw [r, gS, wfr, L weCursor (by decide)]
  · rw [r, gS]; exact h7
/-- a row of one kind alone was written -/
theorem tjZ_l {C : zC} {n0 a n k : Nat} {κ τ : zS} {x : Int32} {d : Int} (W : zW C n0 κ) (T : zT κ a = 14) (Z : tjZ κ a n d) (x1 : (zA κ (zR κ weSeen a) (zA κ (zR κ weHeap a) 0).toNatClampNeg).toInt ≤ x.toInt) (x2 : x.toInt ≤ (zA κ (zR κ weLow a) k).toInt) (e : τ = ua κ (zR κ weLow a) k x) : knE κ τ a ∧ tjZ τ a n d ∧ tjG τ a n = tjG κ a n ∧ snG κ τ a n ∧ zI τ = zI κ ∧ (∀ g, g ∈ weRf → g ≠ weLow → zA τ (zR κ g a) = zA κ (zR κ g a)) := by
  obtain ⟨c, h, p, o, u⟩ := Z
  obtain ⟨u1, u2, u3, u4, u5⟩ := kn_u W T (f := weLow) (by decide) (by decide) e
  have r := u1.2.1
  have gS := u4 weSeen (by decide) (by decide)
  have gF := u4 weFirsts (by decide) (by decide)
  have gC := u4 weCursor (by decide) (by decide)
  refine ⟨u1, ?_, ?_, fun s hs h7 => ?_, u2, u4⟩
  · unfold tjZ
    rw [r, u2, gS, gF, gC, u4 weHeap (by decide) (by decide), u4 wePath (by decide) (by decide), u4 weKnotOf (by decide) (by decide), u4 weOrder (by decide) (by decide), u4 weKnotFirsts (by decide) (by decide)]
    exact ⟨c, tjH_l h u3 x1 x2, p, o, u⟩
  · unfold tjG
    rw [r, gS, gF, gC]
  · rw [r, gS]; exact h7
theorem tjZ_c {C : zC} {n0 a n k : Nat} {κ τ : zS} {x : Int32} {d : Int} (W : zW C n0 κ) (T : zT κ a = 14) (Z : tjZ κ a n d) (hk : k < n) (hs : zA κ (zR κ weSeen a) k ≠ 0) (hc : (zA κ (zR κ weCursor a) k).toInt < (zA κ (zR κ weFirsts a) (k + 1)).toInt) (ex : x.toInt = (zA κ (zR κ weCursor a) k).toInt + 1) (e : τ = ua κ (zR κ weCursor a) k x) : knE κ τ a ∧ tjZ τ a n d ∧ tjG τ a n = tjG κ a n - 1 ∧ snG κ τ a n ∧ zI τ = zI κ ∧ (∀ g, g ∈ weRf → g ≠ weCursor → zA τ (zR κ g a) = zA κ (zR κ g a)) ∧ zT τ a = 14 := by
  obtain ⟨c, h, p, o, u⟩ := Z
  obtain ⟨u1, u2, u3, u4, u5⟩ := kn_u W T (f := weCursor) (by decide) (by decide) e
  have r := u1.2.1
  have gS := u4 weSeen (by decide) (by decide)
  have gF := u4 weFirsts (by decide) (by decide)
  refine ⟨u1, ?_, ?_, fun s hs h7 => ?_, u2, u4, u5⟩
  · unfold tjZ
    rw [r, u2, gS, gF, u4 weLow (by decide) (by decide), u4 weHeap (by decide) (by decide), u4 wePath (by decide) (by decide), u4 weKnotOf (by decide) (by decide), u4 weOrder (by decide) (by decide), u4 weKnotFirsts (by decide) (by decide)]
    exact ⟨c, h, p, o, tjU_c u hc u3 ex⟩
  · unfold tjG
    rw [r, gS, gF]
    exact tjF_c hk hs u3 ex
  · rw [r, gS]; exact h7
theorem snG.tr {κ τ σ : zS} {a n : Nat} (h : snG κ τ a n) (g : snG τ σ a n) : snG κ σ a n := fun s hs z => g s hs (h s hs z)
/-- the last state of the path -/
theorem tjZ_k {κ : zS} {a n : Nat} {d : Int} (Z : tjZ κ a n d) (h : 0 < d) : ∃ pos : Nat, (pos : Int) < (zI κ weHeaped a).toInt ∧ zA κ (zR κ weHeap a) pos = zA κ (zR κ wePath a) (d - 1).toNat ∧ (d = 1 → pos = 0) ∧ (0 ≤ (zA κ (zR κ wePath a) (d - 1).toNat).toInt ∧ (zA κ (zR κ wePath a) (d - 1).toNat).toInt < n) ∧ zA κ (zR κ weSeen a) (zA κ (zR κ wePath a) (d - 1).toNat).toNatClampNeg ≠ 0 ∧ (zA κ (zR κ weSeen a) (zA κ (zR κ weHeap a) 0).toNatClampNeg).toInt ≤ (zA κ (zR κ weLow a) (zA κ (zR κ wePath a) (d - 1).toNat).toNatClampNeg).toInt ∧ (zA κ (zR κ weLow a) (zA κ (zR κ wePath a) (d - 1).toNat).toNatClampNeg).toInt ≤ (zA κ (zR κ weSeen a) (zA κ (zR κ wePath a) (d - 1).toNat).toNatClampNeg).toInt := by
  obtain ⟨c, h1, p, o, u⟩ := Z
  obtain ⟨i, g1, g2⟩ := p.1 (d - 1).toNat (by omega)
  have q := h1.1 i g1
  have qq := h1
  rw [← g2]
  refine ⟨i, g1, rfl, fun z => ?_, q.1, q.2.1, q.2.2.2.1, q.2.2.2.2⟩
  have e : (d - 1).toNat = 0 := by omega
  have y := p.2.2 h
  rw [e, y] at g2
  exact tjH_i qq g1 (by omega) (by rw [g2])
theorem foF {L n : Int} {x y : Int32} (hx : 0 ≤ x.toInt ∧ x.toInt ≤ 20000) (hy : 0 ≤ y.toInt ∧ y.toInt ≤ 1000) : ((2 : Int64) * Int32.toInt64 (x + y) + 2).toInt = 2 * (x.toInt + y.toInt) + 2 := by
  have e : (x + y).toInt = x.toInt + y.toInt := add_i (by omega) (by omega)
  have e1 : (Int32.toInt64 (x + y)).toInt = x.toInt + y.toInt := by rw [Int32.toInt_toInt64, e]
  have z2 : (2 : Int64).toInt = 2 := rfl
  have e2 : ((2 : Int64) * Int32.toInt64 (x + y)).toInt = 2 * (x.toInt + y.toInt) := by rw [jmul_i (by rw [e1, z2]; omega) (by rw [e1, z2]; omega), e1, z2]
  rw [jadd_i (by rw [e2, z2]; omega) (by rw [e2, z2]; omega), e2, z2]
theorem tjZ_d {κ : zS} {a n : Nat} {d : Int} (Z : tjZ κ a n d) (h : 0 < d) : tjZ κ a n (d - 1) := by
  obtain ⟨c, h1, p, o, u⟩ := Z
  obtain ⟨c1, c2, c3, c4⟩ := c
  exact ⟨⟨by omega, c2, c3, by omega⟩, h1, ⟨fun j hj => p.1 j (by omega), fun j hj => p.2.1 j (by omega), fun _ => p.2.2 h⟩, o, u⟩
theorem cBq_lt {f : Nat → Int32} {n k : Nat} (hk : k < n) (h : f k = 0) : cBq f n < n := by
  have a := cBq_up (x := 1) hk h (by decide)
  have b := cBq_le (f := upd f k 1) (n := n)
  omega
/-- on the way along the links -/
def foI (κ τ : zS) (a n r : Nat) (d : Int32) : Prop := knE κ τ a ∧ tjZ τ a n d.toInt ∧ (d.toInt = 0 → (zI τ weHeaped a).toInt = 0) ∧ snG κ τ a n ∧ zA τ (zR τ weSeen a) r ≠ 0
theorem We_follow_c {C : zC} {n0 : Nat} {a0 : Nat} {a1 : Int32} {κ : zS} {Q : zS → Prop} (W : zW C n0 κ) (Ta0 : zT κ a0 = 14) (m9 : Nat) (hp : weM κ a0 ∧ ((zI κ weTotal a0).toInt = (m9 : Int) ∧ m9 ≤ 1000) ∧ wfO m9 ((zN κ (zR κ weTargets a0))) (zA κ (zR κ weFirsts a0)) (zA κ (zR κ weTargets a0)) ∧ (zN κ (zR κ weTargets a0)) ≤ 20000 ∧ tjZ κ a0 m9 0 ∧ (zI κ weHeaped a0).toInt = 0 ∧ (0 ≤ a1.toInt ∧ a1.toInt < m9) ∧ zA κ (zR κ weSeen a0) a1.toNatClampNeg = 0) (h : ∀ (κ' : zS), (knE κ κ' a0 ∧ tjZ κ' a0 m9 0 ∧ (zI κ' weHeaped a0).toInt = 0 ∧ snG κ κ' a0 m9 ∧ zA κ' (zR κ' weSeen a0) a1.toNatClampNeg ≠ 0) → Q κ') : zRun C 1 mWe_follow [.ref a0, .int a1] κ (oV Q noX) := by
  refine We_follow_run W Ta0 ?_
  replace W := W.lo (Nat.le_trans W.1.2.1 W.1.2.2) (Nat.le_refl (zn κ))
  unfold w_We_follow_0
  obtain ⟨M, ⟨tn, n1⟩, wo, lT, Z0, h0, k1, s0⟩ := hp
  have M9 := M
  obtain ⟨M1, M2, M3, M4, M5, M6, M7, M8, M09, M10, M11⟩ := M9
  have kn1 := cnk k1.1
  have wn := wo.1 m9 (Nat.le_refl _)
  have wL := wo.2.2.1
  intro T1
  refine We_visit_c W T1  ?_ (fun κ_2 q3 => ?_)
  · exact ⟨M, by omega, by decide, by omega⟩  -- p1
  have E2 := q3.1
  have V := tjZ_v (d9 := 0) W Ta0 n1 wo.2.1 Z0 (fun _ => h0) k1 s0 q3
  have tt : zI κ_2 weTotal a0 = zI κ weTotal a0 := E2.1.i (fun z => absurd z.2 (by decide))
  intro W4
  intro M5
  refine ⟨?_, ?_⟩
  · rw [E2.2.1, E2.2.2, tt, inb_iff]; omega  -- b2
  intro x6 hx6
  unfold w_We_follow_35
  refine ⟨fun n l0 l2 l3 l5 τ => n = (tjG τ a0 m9 + l2.toInt).toNat ∧ (a0 = l0 ∧ foI κ τ a0 m9 a1.toNatClampNeg l2 ∧ l3.toInt = 2 * ((zA κ (zR κ weFirsts a0) m9).toInt + m9) + 2 ∧ 0 ≤ l5.toInt ∧ l5.toInt + tjG τ a0 m9 + l2.toInt ≤ (zA κ (zR κ weFirsts a0) m9).toInt + m9 + 1), ⟨_, rfl, ?_⟩, ?_⟩
  · have W2 := kn_r W Ta0 E2 (f := weFirsts) (by decide) (by decide)
    have tk : (zI κ weTotal a0).toNatClampNeg = m9 := by
      have := cnk (x := zI κ weTotal a0) (by omega)
      omega
    have b := tjF_b Z0.2.2.2.2 (Nat.le_refl m9)
    have w0 := (wo.1 0 (Nat.zero_le _)).1
    have g9 := V.2.1
    have gk : tjG κ a0 m9 ≤ (zA κ (zR κ weFirsts a0) m9).toInt - (zA κ (zR κ weFirsts a0) 0).toInt + m9 := b
    have z1 : (1 : Int32).toInt = 1 := rfl
    have z0 : (0 : Int64).toInt = 0 := rfl
    refine ⟨rfl, ⟨E2, V.1, fun z => absurd z (by decide), V.2.2.1, V.2.2.2.1⟩, ?_, by decide, by rw [z0, z1]; omega⟩
    rw [hx6, E2.2.1, tt, W2, tk, foF (L := 0) (n := 0) (by omega) (by omega)]
    omega
  rintro n35 _ x35_2 x35_3 x35_5 κ35 W35 T35_0 ⟨hn35, rfl, i35⟩
  obtain ⟨⟨E35, Z35, d35, s35, r35⟩, l35, p35, f35⟩ := i35
  have rr := E35.2.1
  have nn := E35.2.2
  have W9 := kn_r W Ta0 E35 (f := weFirsts) (by decide) (by decide)
  have W8 := kn_r W Ta0 E35 (f := weTargets) (by decide) (by decide)
  have G0 : 0 ≤ tjG κ35 a0 m9 := tjF_p Z35.2.2.2.2 (fun k hk => by rw [rr, W9]; exact wo.2.1 k hk)
  have dd := Z35.1.1
  have db := Z35.1.2.2.2
  have db1 := Z35.1.2.2.1
  have db2 := cBq_le (f := zA κ35 (zR κ35 weSeen a0)) (n := m9)
  have hj225 : ∀ (l0 : Nat) (l2 : Int32) (l3 : Int64) (l5 : Int64) (τ : zS), zW C (zn κ) τ → zT τ l0 = 14 → (a0 = l0 ∧ foI κ τ a0 m9 a1.toNatClampNeg l2 ∧ x35_3 = l3 ∧ x35_5 = l5 ∧ tjG τ a0 m9 + l2.toInt + 1 = tjG κ35 a0 m9 + x35_2.toInt ∧ 0 ≤ tjG τ a0 m9 + l2.toInt ∧ x35_5.toInt < x35_3.toInt) → w_We_follow_225 C (zn κ) Q (fun (l0' : Nat) (l2' : Int32) (l3' : Int64) (l5' : Int64) (τ : zS) => ∃ k < n35, (fun (n : Nat) (l0 : Nat) (l2 : Int32) (l3 : Int64) (l5 : Int64) (τ : zS) => n = (tjG τ a0 m9 + l2.toInt).toNat ∧ (a0 = l0 ∧ foI κ τ a0 m9 a1.toNatClampNeg l2 ∧ l3.toInt = 2 * ((zA κ (zR κ weFirsts a0) m9).toInt + m9) + 2 ∧ 0 ≤ l5.toInt ∧ l5.toInt + tjG τ a0 m9 + l2.toInt ≤ (zA κ (zR κ weFirsts a0) m9).toInt + m9 + 1)) k l0' l2' l3' l5' τ) l0 l2 l3 l5 τ := by
    rintro _ y225_2 y225_3 y225_5 τ225 W225 T225_0 ⟨rfl, j225⟩
    unfold w_We_follow_225
    intro x7 hx7
    refine ⟨_, ?_, rfl, ?_⟩
    · obtain ⟨F, rfl, rfl, g, g0, lt⟩ := j225
      rw [hn35]; omega
    · obtain ⟨F, rfl, rfl, g, g0, lt⟩ := j225
      have z1 : (1 : Int64).toInt = 1 := rfl
      have e : (x35_5 + 1).toInt = x35_5.toInt + 1 := by rw [jadd_i (by rw [z1]; omega) (by rw [z1]; omega), z1]
      exact ⟨rfl, F, l35, by rw [hx7, e]; omega, by rw [hx7, e]; omega⟩
  have hj202 : ∀ (l0 : Nat) (l2 : Int32) (l3 : Int64) (l5 : Int64) (l7 : Int32) (τ : zS), zW C (zn κ) τ → zT τ l0 = 14 → (a0 = l0 ∧ (knE κ τ a0 ∧ snG κ τ a0 m9 ∧ zA τ (zR τ weSeen a0) a1.toNatClampNeg ≠ 0) ∧ x35_3 = l3 ∧ x35_5 = l5 ∧ x35_5.toInt < x35_3.toInt ∧ 0 ≤ l2.toInt ∧ (tjC m9 (zA τ (zR τ weSeen a0)) ((zI τ weHeaped a0).toInt) ((zI τ wePlaced a0).toInt) ((zI τ weStamp a0).toInt) ((zI τ weKnots a0).toInt) (l2.toInt + 1) ∧ tjZ τ a0 m9 l2.toInt) ∧ tjG τ a0 m9 + l2.toInt + 1 = tjG κ35 a0 m9 + x35_2.toInt ∧ (0 ≤ l7.toInt ∧ l7.toInt < m9) ∧ ∃ pos : Nat, (pos : Int) < (zI τ weHeaped a0).toInt ∧ zA τ (zR τ weHeap a0) pos = l7 ∧ (l2.toInt = 0 → pos = 0) ∧ (∀ j : Nat, (j : Int) < l2.toInt → (zA τ (zR τ weSeen a0) (zA τ (zR τ wePath a0) j).toNatClampNeg).toInt < (zA τ (zR τ weSeen a0) l7.toNatClampNeg).toInt)) → w_We_follow_202 C (zn κ) Q (fun (l0' : Nat) (l2' : Int32) (l3' : Int64) (l5' : Int64) (τ : zS) => ∃ k < n35, (fun (n : Nat) (l0 : Nat) (l2 : Int32) (l3 : Int64) (l5 : Int64) (τ : zS) => n = (tjG τ a0 m9 + l2.toInt).toNat ∧ (a0 = l0 ∧ foI κ τ a0 m9 a1.toNatClampNeg l2 ∧ l3.toInt = 2 * ((zA κ (zR κ weFirsts a0) m9).toInt + m9) + 2 ∧ 0 ≤ l5.toInt ∧ l5.toInt + tjG τ a0 m9 + l2.toInt ≤ (zA κ (zR κ weFirsts a0) m9).toInt + m9 + 1)) k l0' l2' l3' l5' τ) l0 l2 l3 l5 l7 τ := by
    rintro _ y202_2 y202_3 y202_5 y202_7 τ202 W202 T202_0 ⟨rfl, j202⟩
    unfold w_We_follow_202
    obtain ⟨⟨E, sg, sr⟩, rfl, rfl, lt, d0, Z, g, k7, pos, hq, ek, hd, hk⟩ := j202
    have r := E.2.1
    have nE := E.2.2
    have k7n := cnk k7.1
    have W7 := kn_r W Ta0 E (f := weFirsts) (by decide) (by decide)
    have G := tjF_p Z.2.2.2.2.2 (fun k hk => by rw [r, W7]; exact wo.2.1 k hk)
    have G9 : 0 ≤ tjG τ202 a0 m9 := G
    refine ⟨?_, ?_⟩
    · rw [r, nE, inb_iff]; omega  -- b6
    refine ⟨?_, ?_⟩
    · rw [r, nE, inb_iff]; omega  -- b7
    refine ⟨fun c8 => ?_, fun c8 => ?_⟩
    · skip
      refine hj225 _ _ _ _ _ W202 ?_ ?_
      · exact T202_0  -- t8
      · refine ⟨rfl, ⟨E, Z.2, fun z => ?_, sg, sr⟩, rfl, rfl, g, by omega, lt⟩
        have q := Z.2.2.1.1 pos hq
        have e9 := hd z
        rw [e9] at q ek
        rw [ek] at q
        exact absurd (Int32.toInt_inj.mp (by omega)) c8
    · skip
      intro T9
      refine We_tie_c W202 T9 pos m9 ?_ (fun κ_10 q11 => ?_)
      · have c1 := Z.1.1
        have c2 := Z.1.2.1
        have c3 := Z.1.2.2.1
        have c4 := Z.1.2.2.2
        have cb := cBq_le (f := zA τ202 (zR τ202 weSeen a0)) (n := m9)
        exact ⟨weM_K E M, ⟨by rw [E.1.i (fun z => absurd z.2 (by decide))]; exact tn, n1⟩, by omega, by omega, hq, by omega, fun i hi => (Z.2.2.1.1 i hi).1, ek, fun i hi e => tjH_i Z.2.2.1 hi hq (by rw [e, ek])⟩
      intro W12
      intro M13
      refine hj225 _ _ _ _ _ W12 ?_ ?_
      · exact q11.1.1.1.t T202_0 (by decide)  -- t11
      · obtain ⟨Z1, G1, s1, h1⟩ := tjZ_t W202 T202_0 n1 d0 Z hq ek hk hd q11.1 q11.2.1 q11.2.2
        exact ⟨rfl, ⟨E.tr q11.1.1, Z1, h1, sg.tr s1, s1 _ (by omega) sr⟩, rfl, rfl, by rw [G1]; exact g, by rw [G1]; omega, lt⟩
  refine ⟨fun c14 => ?_, fun c14 => ?_⟩
  · skip
    refine h _ ?_
    · rw [lg_cmp_ge, jlei] at c14
      exfalso
      omega
  · skip
    refine ⟨fun c15 => ?_, fun c15 => ?_⟩
    · skip
      refine h _ ?_
      · rw [lei, t0i] at c15
        have e : x35_2.toInt = 0 := by omega
        rw [e] at Z35
        exact ⟨E35, Z35, d35 e, s35, r35⟩
    · skip
      rw [lei, t0i] at c15
      rw [lg_cmp_ge, jlei] at c14
      obtain ⟨pos, hq, ek, hd1, kr, ks, kl1, kl2⟩ := tjZ_k Z35 (by omega)
      have d1 : (x35_2 - 1).toInt = x35_2.toInt - 1 := dec_i (by omega)
      have nd : (x35_2 - 1).toNatClampNeg = (x35_2.toInt - 1).toNat := by
        have := cnk (x := x35_2 - 1) (by omega)
        omega
      have lt : x35_5.toInt < x35_3.toInt := by omega
      refine ⟨?_, ?_⟩
      · rw [rr, nn, inb_iff, d1]; omega  -- b15
      intro x16 hx16
      rw [nd] at hx16
      have kp := kr
      rw [← hx16] at ek kr ks kl1 kl2
      have k16 := cnk kr.1
      have e16 := cn1 kr.1 (by omega)
      refine ⟨?_, ?_⟩
      · rw [rr, nn, inb_iff]; omega  -- b16
      refine ⟨?_, ?_⟩
      · rw [rr, nn, inb_iff, e16.2]; omega  -- b17
      refine ⟨fun c17 => ?_, fun c17 => ?_⟩
      · skip
        intro x18 hx18
        refine ⟨fun c19 => ?_, fun c19 => ?_⟩
        · skip
          refine hj202 _ _ _ _ _ _ W35 ?_ ?_
          · exact T35_0  -- t18
          · have d18 : x18.toInt = x35_2.toInt - 1 := by rw [hx18, add_i (by rw [tmi]; omega) (by rw [tmi]; omega), tmi]; omega
            rw [lei, t0i] at c19
            have z := tjZ_d Z35 (by omega)
            have e9 : x35_2.toInt - 1 + 1 = x35_2.toInt := by omega
            refine ⟨rfl, ⟨E35, s35, r35⟩, rfl, rfl, lt, by omega, ?_, by omega, kr, pos, hq, ek, fun _ => hd1 (by omega), fun j hj => by omega⟩
            rw [d18, e9]
            exact ⟨Z35.1, z⟩
        · skip
          have d18 : x18.toInt = x35_2.toInt - 1 := by rw [hx18, add_i (by rw [tmi]; omega) (by rw [tmi]; omega), tmi]; omega
          rw [lei, t0i] at c19
          have d2 : (x18 - 1).toInt = x35_2.toInt - 2 := by rw [dec_i (by omega), d18]; omega
          have nd2 : (x18 - 1).toNatClampNeg = (x35_2.toInt - 2).toNat := by
            have := cnk (x := x18 - 1) (by omega)
            omega
          refine ⟨?_, ?_⟩
          · rw [rr, nn, inb_iff, d2]; omega  -- b20
          intro x20 hx20
          rw [nd2] at hx20
          obtain ⟨i2, h21, h22⟩ := Z35.2.2.1.1 (x35_2.toInt - 2).toNat (by omega)
          have q2 := Z35.2.1.1 i2 h21
          rw [h22, ← hx20] at q2
          refine ⟨?_, ?_⟩
          · rw [rr, nn, inb_iff]; omega  -- b21
          refine ⟨?_, ?_⟩
          · rw [rr, nn, inb_iff]; omega  -- b22
          refine ⟨?_, ?_⟩
          · rw [rr, nn, inb_iff]; omega  -- b23
          intro κ_21 hκ_21
          intro W22
          refine hj202 _ _ _ _ _ _ W22 ?_ ?_
          · rw [hκ_21]; exact T35_0  -- t24
          · have z := tjZ_d Z35 (by omega)
            have e9 : x35_2.toInt - 1 + 1 = x35_2.toInt := by omega
            obtain ⟨l1, l2, l3, l4, l5, l6⟩ := tjZ_l W35 T35_0 z (by
              split
              · exact kl1
              · exact q2.2.2.2.1) (by
              split
              · rename_i y
                rw [lti] at y
                omega
              · exact Int.le_refl _) hκ_21
            have r21 := l1.2.1
            have gS := l6 weSeen (by decide) (by decide)
            have gP := l6 wePath (by decide) (by decide)
            have gH := l6 weHeap (by decide) (by decide)
            refine ⟨rfl, ⟨E35.tr l1, s35.tr l4, l4 _ (by omega) r35⟩, rfl, rfl, lt, by omega, ?_, by rw [l3]; omega, kr, pos, by rw [l5]; exact hq, by rw [r21, gH]; exact ek, fun y => by omega, fun j hj => ?_⟩
            · rw [d18, e9]
              refine ⟨?_, l2⟩
              rw [r21, gS, l5]
              exact Z35.1
            · rw [r21, gS, gP, hx16]
              exact tjP_m Z35.2.2.1 (by omega) (by omega)
      · skip
        rw [lei, e16.1] at c17
        have uu := Z35.2.2.2.2 x16.toNatClampNeg (by omega) ks
        have W9q : zA κ35 (zR κ35 weFirsts a0) = zA κ (zR κ weFirsts a0) := by rw [rr]; exact W9
        have W8q : zA κ35 (zR κ35 weTargets a0) = zA κ (zR κ weTargets a0) := by rw [rr]; exact W8
        have w1 := wo.1 x16.toNatClampNeg (by omega)
        have w2 := wo.1 (x16.toNatClampNeg + 1) (by omega)
        rw [W9q] at uu
        have c17b := c17
        rw [W9q] at c17b
        have kc := cnk (x := zA κ35 (zR κ35 weCursor a0) x16.toNatClampNeg) (by omega)
        refine ⟨?_, ?_⟩
        · rw [rr, nn, inb_iff]; omega  -- b26
        refine ⟨?_, ?_⟩
        · have e : zN κ35 (zR κ35 weTargets a0) = zN κ (zR κ weTargets a0) := by rw [rr, nn]
          rw [e, inb_iff]; omega
        intro x23 hx23
        have tr := wo.2.2.2 (zA κ35 (zR κ35 weCursor a0) x16.toNatClampNeg).toNatClampNeg (by omega)
        rw [W8q] at hx23
        rw [← hx23] at tr
        have k23 := cnk tr.1
        refine ⟨?_, ?_⟩
        · rw [rr, nn, inb_iff]; omega  -- b28
        refine ⟨?_, ?_⟩
        · rw [rr, nn, inb_iff]; omega  -- b29
        intro κ_24 hκ_24
        intro W25
        have ex : (zA κ35 (zR κ35 weCursor a0) x16.toNatClampNeg + 1).toInt = (zA κ35 (zR κ35 weCursor a0) x16.toNatClampNeg).toInt + 1 := (cn1 (by omega) (by omega)).2
        obtain ⟨f1, f2, f3, f4, f5, f6, f7⟩ := tjZ_c W35 T35_0 Z35 (by omega) ks (by omega) ex hκ_24
        have E24 := E35.tr f1
        have r24 := f1.2.1
        have rq := E24.2.1
        have nq := E24.2.2
        refine ⟨?_, ?_⟩
        · rw [rq, nq, inb_iff]; omega  -- b30
        refine ⟨fun c26 => ?_, fun c26 => ?_⟩
        · skip
          refine ⟨?_, ?_⟩
          · rw [rq, nq, inb_iff]; omega  -- b31
          refine ⟨fun c27 => ?_, fun c27 => ?_⟩
          · skip
            refine hj225 _ _ _ _ _ W25 ?_ ?_
            · exact f7  -- t32
            · exact ⟨rfl, ⟨E24, f2, fun z => by omega, s35.tr f4, f4 _ (by omega) r35⟩, rfl, rfl, by omega, by omega, lt⟩  -- k33
          · skip
            refine ⟨?_, ?_⟩
            · rw [rq, nq, inb_iff]; omega  -- b34
            refine ⟨?_, ?_⟩
            · rw [rq, nq, inb_iff]; omega  -- b35
            refine ⟨?_, ?_⟩
            · rw [rq, nq, inb_iff]; omega  -- b36
            intro κ_28 hκ_28
            intro W29
            refine hj225 _ _ _ _ _ W29 ?_ ?_
            · rw [hκ_28]; exact f7  -- t37
            · obtain ⟨i9, h91, h92⟩ := f2.2.1.2.2.2.1 x23.toNatClampNeg (by omega) c26 c27
              have q9 := f2.2.1.1 i9 h91
              rw [h92] at q9
              obtain ⟨i8, h81, h82⟩ := f2.2.2.1.1 (x35_2.toInt - 1).toNat (by omega)
              have q8 := f2.2.1.1 i8 h81
              have e8 : zA κ_24 (zR κ_24 wePath a0) (x35_2.toInt - 1).toNat = x16 := by rw [r24, f6 wePath (by decide) (by decide), hx16]
              rw [h82, e8] at q8
              obtain ⟨l1, l2, l3, l4, l5, l6⟩ := tjZ_l W25 f7 f2 (by
                split
                · omega
                · exact q8.2.2.2.1) (by
                split
                · rename_i y
                  rw [lti] at y
                  omega
                · exact Int.le_refl _) hκ_28
              exact ⟨rfl, ⟨E24.tr l1, l2, fun z => by omega, (s35.tr f4).tr l4, l4 _ (by omega) (f4 _ (by omega) r35)⟩, rfl, rfl, by omega, by omega, lt⟩
        · skip
          intro T30
          refine We_visit_c W25 T30  ?_ (fun κ_31 q32 => ?_)
          · have cl := cBq_lt (f := zA κ_24 (zR κ_24 weSeen a0)) (n := m9) (k := x23.toNatClampNeg) (by omega) c26
            have c1 := f2.1.1
            have c2 := f2.1.2.1
            have c3 := f2.1.2.2.1
            have c4 := f2.1.2.2.2
            exact ⟨weM_K E24 M, by omega, by omega, by omega⟩
          intro W33
          intro M34
          intro x35 hx35
          refine hj225 _ _ _ _ _ W33 ?_ ?_
          · exact q32.1.1.t f7 (by decide)  -- t40
          · have W5 : zA κ_24 (zR κ_24 weFirsts a0) = zA κ (zR κ weFirsts a0) := by rw [r24, f6 weFirsts (by decide) (by decide)]; exact W9q
            obtain ⟨v1, v2, v3, v4, v5⟩ := tjZ_v W25 f7 n1 (fun k hk => by rw [W5]; exact wo.2.1 k hk) f2 (fun z => by omega) tr c26 q32
            have e2 := cn1 (x := x35_2) (by omega) (by omega)
            refine ⟨rfl, ⟨E24.tr q32.1, by rw [hx35, e2.2]; exact v1, fun z => ?_, (s35.tr f4).tr v3, v3 _ (by omega) (f4 _ (by omega) r35)⟩, rfl, rfl, by rw [hx35, e2.2]; omega, by rw [hx35, e2.2]; omega, lt⟩
            rw [hx35, e2.2] at z
            omega

end
section
set_option maxHeartbeats 1600000
/-! the class: Web's knot, sizeOf, isRing -/
/-- the knots in order -/
def weKn (κ : zS) (a n : Nat) : Prop := (0 ≤ (zI κ weKnots a).toInt ∧ (zI κ weKnots a).toInt ≤ n) ∧ (∀ c : Nat, (c : Int) < (zI κ weKnots a).toInt → 0 ≤ (zA κ (zR κ weKnotFirsts a) c).toInt ∧ (zA κ (zR κ weKnotFirsts a) c).toInt < (zA κ (zR κ weKnotFirsts a) (c + 1)).toInt ∧ (zA κ (zR κ weKnotFirsts a) (c + 1)).toInt ≤ n) ∧ (∀ i : Nat, i < n → (0 ≤ (zA κ (zR κ weOrder a) i).toInt ∧ (zA κ (zR κ weOrder a) i).toInt < n) ∧ (0 ≤ (zA κ (zR κ weKnotOf a) (zA κ (zR κ weOrder a) i).toNatClampNeg).toInt ∧ (zA κ (zR κ weKnotOf a) (zA κ (zR κ weOrder a) i).toNatClampNeg).toInt < (zI κ weKnots a).toInt) ∧ (zA κ (zR κ weKnotFirsts a) (zA κ (zR κ weKnotOf a) (zA κ (zR κ weOrder a) i).toNatClampNeg).toNatClampNeg).toInt ≤ (i : Int) ∧ (i : Int) < (zA κ (zR κ weKnotFirsts a) ((zA κ (zR κ weKnotOf a) (zA κ (zR κ weOrder a) i).toNatClampNeg).toNatClampNeg + 1)).toInt) ∧ ∀ s, s < n → ∃ i : Nat, i < n ∧ (zA κ (zR κ weOrder a) i).toNatClampNeg = s
theorem cBq_a {f : Nat → Int32} : ∀ {n : Nat}, (∀ s, s < n → f s ≠ 0) → cBq f n = n
  | 0, _ => rfl
  | n + 1, h => by
    have a := cBq_a (f := f) (n := n) (fun s hs => h s (Nat.lt_succ_of_lt hs))
    show cBq f n + (if f n = 0 then 0 else 1) = _
    rw [if_neg (h n (Nat.lt_succ_self n)), a]
    omega
theorem cBq_z {f : Nat → Int32} {n : Nat} (h : ∀ s, s < n → f s = 0) : cBq f n = 0 := sgI_z (fun i hi => if_pos (h i hi))
theorem We_knot_c {C : zC} {n0 : Nat} {a0 : Nat} {κ : zS} {Q : zS → Prop} (W : zW C n0 κ) (Ta0 : zT κ a0 = 14) (m9 : Nat) (hp : weM κ a0 ∧ ((zI κ weTotal a0).toInt = (m9 : Int) ∧ m9 ≤ 1000) ∧ wfO m9 ((zN κ (zR κ weTargets a0))) (zA κ (zR κ weFirsts a0)) (zA κ (zR κ weTargets a0)) ∧ (zN κ (zR κ weTargets a0)) ≤ 20000) (h : ∀ (κ' : zS), (knE κ κ' a0 ∧ weKn κ' a0 m9) → Q κ') : zRun C 2 mWe_knot [.ref a0] κ (oV Q noX) := by
  refine We_knot_run W Ta0 ?_
  replace W := W.lo (Nat.le_trans W.1.2.1 W.1.2.2) (Nat.le_refl (zn κ))
  unfold w_We_knot_0
  obtain ⟨M, ⟨tn, n1⟩, wo, lT⟩ := hp
  have M9 := M
  obtain ⟨M1, M2, M3, M4, M5, M6, M7, M8, M09, M10, M11⟩ := M9
  intro T1
  refine Ar_fill_c W T1  (fun κ_2 q3 => ?_)
  intro W4
  intro M5
  intro T6
  refine Ar_fill_c W4 T6  (fun κ_7 q8 => ?_)
  intro W9
  intro M10
  intro κ_11 hκ_11
  intro W12
  intro κ_13 hκ_13
  intro W14
  intro κ_15 hκ_15
  intro W16
  intro κ_17 hκ_17
  intro W18
  unfold w_We_knot_38
  refine ⟨fun n l0 l1 τ => n = (1000 - l1.toInt).toNat ∧ (a0 = l0 ∧ knE κ τ a0 ∧ tjZ τ a0 m9 0 ∧ (zI τ weHeaped a0).toInt = 0 ∧ (0 ≤ l1.toInt ∧ l1.toInt ≤ m9) ∧ ∀ s : Nat, (s : Int) < l1.toInt → zA τ (zR τ weSeen a0) s ≠ 0), ⟨_, rfl, ?_⟩, ?_⟩
  · have Z2 : zF (knF a0) κ κ_2 := by rw [q3]; exact zF_uf (by rw [weRf_o W Ta0 (f := weSeen) (by decide)]; exact ⟨rfl, show 1407 ≤ 1411 by decide⟩)
    have R2 : zR κ_2 = zR κ := by rw [q3]; rfl
    have N2 : zN κ_2 = zN κ := by rw [q3]; rfl
    have E2 : knE κ κ_2 a0 := ⟨Z2, R2, N2⟩
    have T2 : zT κ_2 a0 = 14 := Z2.t Ta0 (by decide)
    have Z7 : zF (knF a0) κ_2 κ_7 := by rw [q8]; exact zF_uf (by rw [weRf_o W4 T2 (f := weKnotOf) (by decide)]; exact ⟨rfl, show 1407 ≤ 1409 by decide⟩)
    have R7 : zR κ_7 = zR κ_2 := by rw [q8]; rfl
    have N7 : zN κ_7 = zN κ_2 := by rw [q8]; rfl
    have E7 : knE κ_2 κ_7 a0 := ⟨Z7, R7, N7⟩
    have T7 : zT κ_7 a0 = 14 := Z7.t T2 (by decide)
    obtain ⟨x1, x2, x3, x4, x5⟩ := kn_i (f := weKnots) (by decide) hκ_11
    obtain ⟨y1, y2, y3, y4, y5⟩ := kn_i (f := wePlaced) (by decide) hκ_13
    obtain ⟨z1, z2, z3, z4, z5⟩ := kn_i (f := weHeaped) (by decide) hκ_15
    obtain ⟨w1, w2, w3, w4, w5⟩ := kn_i (f := weStamp) (by decide) hκ_17
    have EE := ((((E2.tr E7).tr x1).tr y1).tr z1).tr w1
    have A17 : zA κ_17 = zA κ_7 := by rw [w2, z2, y2, x2]
    have i1 : zI κ_17 weKnots a0 = 0 := by rw [w4 weKnots (by decide), z4 weKnots (by decide), y4 weKnots (by decide), x3]
    have i2 : zI κ_17 wePlaced a0 = 0 := by rw [w4 wePlaced (by decide), z4 wePlaced (by decide), y3]
    have i3 : zI κ_17 weHeaped a0 = 0 := by rw [w4 weHeaped (by decide), z3]
    have ne := weRf_n W4 T2 (f := weSeen) (g := weKnotOf) (by decide) (by decide) (by decide)
    have sz : ∀ s, s < m9 → zA κ_17 (zR κ_17 weSeen a0) s = 0 := fun s hs => by
      have e : zA κ_7 (zR κ_2 weSeen a0) = zA κ_2 (zR κ_2 weSeen a0) := by rw [q8]; exact if_neg ne
      rw [A17, EE.2.1, ← R2, e, R2, q3]
      refine (congrFun (if_pos rfl) s).trans ?_
      exact if_pos ⟨Nat.zero_le _, by omega⟩
    have kz : ∀ s, s < m9 → zA κ_17 (zR κ_17 weKnotOf a0) s = -1 := fun s hs => by
      rw [A17, EE.2.1, ← R2, q8]
      refine (congrFun (if_pos rfl) s).trans ?_
      exact if_pos ⟨Nat.zero_le _, by rw [R2, N2]; omega⟩
    refine ⟨rfl, EE, ⟨?_, ?_, ?_, ?_, fun k hk z => absurd (sz k hk) z⟩, by rw [i3]; rfl, ⟨by decide, by rw [t0i]; omega⟩, fun s hs => by rw [t0i] at hs; omega⟩
    · rw [i1, i2, i3, w3]
      exact ⟨by decide, rfl, (cBq_z sz).symm, by decide⟩
    · rw [i3, w3]
      exact ⟨fun i hi => by rw [t0i] at hi; omega, fun i hi => by rw [t0i] at hi; omega, fun s hs => by rw [sz s hs]; decide, fun s hs a => absurd (sz s hs) a, fun s hs _ => kz s hs⟩
    · exact ⟨fun j hj => by omega, fun j hj => by omega, fun hj => absurd hj (by decide)⟩
    · rw [i1, i2]
      exact ⟨fun i hi => by rw [t0i] at hi; omega, fun i hi => by rw [t0i] at hi; omega, fun s hs a => absurd (kz s hs) a⟩
  rintro n38 _ x38_1 κ38 W38 T38_0 ⟨hn38, rfl, i38⟩
  obtain ⟨E38, Z38, h38, k38, s38⟩ := i38
  have rr := E38.2.1
  have nn := E38.2.2
  have tt : zI κ38 weTotal a0 = zI κ weTotal a0 := E38.1.i (fun z => absurd z.2 (by decide))
  have kk := cnk k38.1
  refine ⟨fun c19 => ?_, fun c19 => ?_⟩
  · skip
    refine ⟨?_, ?_⟩
    · have c1 := Z38.1.1
      have c4 := Z38.1.2.2.2
      have c3 := Z38.1.2.2.1
      have cb := cBq_le (f := zA κ38 (zR κ38 weSeen a0)) (n := m9)
      rw [rr, nn, inb_iff]; omega
    intro κ_20 hκ_20
    intro W21
    refine h _ ?_
    · rw [lei, tt] at c19
      obtain ⟨u1, u2, u3, u4, u5⟩ := kn_u W38 T38_0 (f := weKnotFirsts) (by decide) (by decide) hκ_20
      obtain ⟨⟨c1, c2, c3, c4⟩, h, p, o, u⟩ := Z38
      have all := cBq_a (f := zA κ38 (zR κ38 weSeen a0)) (n := m9) (fun s hs => s38 s (by omega))
      have r := u1.2.1
      have gK := u4 weKnotOf (by decide) (by decide)
      have gO := u4 weOrder (by decide) (by decide)
      have kn : (zI κ38 weKnots a0).toNatClampNeg = (zI κ38 weKnots a0).toInt.toNat := rfl
      rw [kn] at u3
      have fK : upd (zA κ38 (zR κ38 weKnotFirsts a0)) (zI κ38 weKnots a0).toInt.toNat (zI κ38 wePlaced a0) (zI κ38 weKnots a0).toInt.toNat = zI κ38 wePlaced a0 := if_pos rfl
      have fc : ∀ x, x ≠ (zI κ38 weKnots a0).toInt.toNat → upd (zA κ38 (zR κ38 weKnotFirsts a0)) (zI κ38 weKnots a0).toInt.toNat (zI κ38 wePlaced a0) x = zA κ38 (zR κ38 weKnotFirsts a0) x := fun x hx => if_neg hx
      refine ⟨E38.tr u1, ?_⟩
      unfold weKn
      rw [r, u2, gK, gO, u3]
      refine ⟨by omega, fun c hc => ?_, fun i hi => ?_, fun s hs => ?_⟩
      · obtain ⟨a, b⟩ := o.2.1 c hc
        rw [fc c (by omega)]
        by_cases z : c + 1 = (zI κ38 weKnots a0).toInt.toNat
        · rw [z, fK]; omega
        · rw [fc (c + 1) z]
          have b2 := b (by omega)
          have a2 := (o.2.1 (c + 1) (by omega)).1
          omega
      · obtain ⟨a, b, c, d⟩ := o.1 i (by omega)
        have kb := cnk b.1
        refine ⟨a, b, ?_, ?_⟩
        · rw [fc _ (by omega)]; exact c
        · by_cases z : (zA κ38 (zR κ38 weKnotOf a0) (zA κ38 (zR κ38 weOrder a0) i).toNatClampNeg).toNatClampNeg + 1 = (zI κ38 weKnots a0).toInt.toNat
          · rw [z, fK]; omega
          · rw [fc _ z]; exact d (by omega)
      · have nz : zA κ38 (zR κ38 weKnotOf a0) s ≠ -1 := fun z => by
          obtain ⟨i, g1, g2⟩ := h.2.2.2.1 s hs (s38 s (by omega)) z
          omega
        obtain ⟨i, g1, g2⟩ := o.2.2 s hs nz
        exact ⟨i, by omega, g2⟩
  · skip
    rw [lei, tt] at c19
    have e1 := cn1 k38.1 (by omega)
    refine ⟨?_, ?_⟩
    · rw [rr, nn, inb_iff]; omega  -- b4
    refine ⟨fun c22 => ?_, fun c22 => ?_⟩
    · skip
      intro x23 hx23
      refine ⟨_, ?_, rfl, ?_⟩
      · rw [hn38, hx23, e1.2]; omega  -- d5
      · refine ⟨rfl, E38, Z38, h38, by rw [hx23, e1.2]; omega, fun s hs => ?_⟩
        rw [hx23, e1.2] at hs
        by_cases z : s = x38_1.toNatClampNeg
        · rw [z]; exact c22
        · exact s38 s (by omega)
    · skip
      intro T24
      refine We_follow_c W38 T24 m9 ?_ (fun κ_25 q26 => ?_)
      · have W9 := kn_r W Ta0 E38 (f := weFirsts) (by decide) (by decide)
        have W8 := kn_r W Ta0 E38 (f := weTargets) (by decide) (by decide)
        exact ⟨weM_K E38 M, ⟨by rw [tt]; exact tn, n1⟩, by rw [rr, nn, W9, W8]; exact wo, by rw [rr, nn]; exact lT, Z38, h38, by omega, c22⟩
      intro W27
      intro M28
      intro x29 hx29
      refine ⟨_, ?_, rfl, ?_⟩
      · rw [hn38, hx29, e1.2]; omega  -- d8
      · refine ⟨rfl, E38.tr q26.1, q26.2.1, q26.2.2.1, by rw [hx29, e1.2]; omega, fun s hs => ?_⟩
        rw [hx29, e1.2] at hs
        by_cases z : s = x38_1.toNatClampNeg
        · rw [z]; exact q26.2.2.2.2
        · exact q26.2.2.2.1 s (by omega) (s38 s (by omega))

theorem We_sizeOf_c {C : zC} {n0 : Nat} {a0 : Nat} {a1 : Int32} {κ : zS} {Q : Int32 → zS → Prop} (W : zW C n0 κ) (Ta0 : zT κ a0 = 14) (m9 : Nat) (hp : weM κ a0 ∧ m9 ≤ 1000 ∧ weKn κ a0 m9 ∧ (0 ≤ a1.toInt ∧ a1.toInt < (zI κ weKnots a0).toInt)) (h : ∀ (v : Int32), (v.toInt = (zA κ (zR κ weKnotFirsts a0) (a1.toNatClampNeg + 1)).toInt - (zA κ (zR κ weKnotFirsts a0) a1.toNatClampNeg).toInt ∧ 1 ≤ v.toInt ∧ v.toInt ≤ m9) → Q v κ) : zRun C 0 mWe_sizeOf [.ref a0, .int a1] κ (oI Q noX) := by
  refine We_sizeOf_run W Ta0 ?_
  replace W := W.lo (Nat.le_trans W.1.2.1 W.1.2.2) (Nat.le_refl (zn κ))
  unfold w_We_sizeOf_0
  obtain ⟨M, n1, K, k1⟩ := hp
  have m4 := M.2.2.2.1
  have kb := K.1
  have e := cn1 k1.1 (by omega)
  have kk := cnk k1.1
  have q := K.2.1 a1.toNatClampNeg (by omega)
  refine ⟨?_, ?_⟩
  · rw [inb_iff, e.2]; omega  -- b1
  refine ⟨?_, ?_⟩
  · rw [inb_iff]; omega  -- b2
  refine h _ ?_
  · rw [e.1]
    have z := sub_i (x := zA κ (zR κ weKnotFirsts a0) (a1.toNatClampNeg + 1)) (y := zA κ (zR κ weKnotFirsts a0) a1.toNatClampNeg) (by omega) (by omega)
    rw [z]
    exact ⟨rfl, by omega, by omega⟩

theorem We_isRing_c {C : zC} {n0 : Nat} {a0 : Nat} {a1 : Int32} {κ : zS} {Q : Int32 → zS → Prop} (W : zW C n0 κ) (Ta0 : zT κ a0 = 14) (m9 : Nat) (hp : weM κ a0 ∧ m9 ≤ 1000 ∧ weKn κ a0 m9 ∧ (0 ≤ a1.toInt ∧ a1.toInt < (zI κ weKnots a0).toInt) ∧ wfO m9 ((zN κ (zR κ weTargets a0))) (zA κ (zR κ weFirsts a0)) (zA κ (zR κ weTargets a0)) ∧ (zN κ (zR κ weTargets a0)) ≤ 20000) (h : ∀ (v : Int32), (nb v) → Q v κ) : zRun C 1 mWe_isRing [.ref a0, .int a1] κ (oI Q noX) := by
  refine We_isRing_run W Ta0 ?_
  replace W := W.lo (Nat.le_trans W.1.2.1 W.1.2.2) (Nat.le_refl (zn κ))
  unfold w_We_isRing_0
  obtain ⟨M, n1, K, k1, wo, lT⟩ := hp
  have m4 := M.2.2.2.1
  have m6 := M.2.2.2.2.2.1
  have m1 := M.1
  have kb := K.1
  have kk := cnk k1.1
  have q := K.2.1 a1.toNatClampNeg (by omega)
  have kc := cnk (x := zA κ (zR κ weKnotFirsts a0) a1.toNatClampNeg) (by omega)
  have oo := K.2.2.1 (zA κ (zR κ weKnotFirsts a0) a1.toNatClampNeg).toNatClampNeg (by omega)
  intro T1
  refine We_sizeOf_c W T1 m9 ?_ (fun r2 q4 => ?_)
  · exact ⟨M, n1, K, k1⟩  -- p1
  intro W5
  intro M6
  refine ⟨fun c7 => ?_, fun c7 => ?_⟩
  · skip
    refine ⟨?_, ?_⟩
    · rw [inb_iff]; omega  -- b2
    refine ⟨?_, ?_⟩
    · rw [inb_iff]; omega  -- b3
    intro x8 hx8
    have o1 := oo.1
    rw [← hx8] at o1
    have k8 := cnk o1.1
    have e8 := cn1 o1.1 (by omega)
    have w1 := wo.1 x8.toNatClampNeg (by omega)
    have w2 := wo.1 (x8.toNatClampNeg + 1) (by omega)
    have wL := wo.2.2.1
    refine ⟨?_, ?_⟩
    · rw [inb_iff]; omega  -- b4
    intro x9 hx9
    unfold w_We_isRing_30
    refine ⟨fun n l0 l2 l3 τ => n = (20000 - l3.toInt).toNat ∧ (κ = τ ∧ a0 = l0 ∧ x8 = l2 ∧ (zA κ (zR κ weFirsts a0) x8.toNatClampNeg).toInt ≤ l3.toInt), ⟨_, rfl, ?_⟩, ?_⟩
    · exact ⟨rfl, rfl, rfl, by rw [hx9]; exact Int.le_refl _⟩  -- j5
    rintro n30 _ x30_2 x30_3 _ W30 T30_0 ⟨hn30, rfl, rfl, i30⟩
    obtain ⟨rfl, l3⟩ := i30
    refine ⟨?_, ?_⟩
    · rw [inb_iff, e8.2]; omega  -- b6
    refine ⟨fun c10 => ?_, fun c10 => ?_⟩
    · skip
      refine h _ ?_
      · exact nb_0  -- q7
    · skip
      rw [lei, e8.1] at c10
      have e3 := cn1 (x := x30_3) (by omega) (by omega)
      refine ⟨?_, ?_⟩
      · rw [inb_iff]; omega  -- b8
      refine ⟨fun c11 => ?_, fun c11 => ?_⟩
      · skip
        intro x12 hx12
        refine ⟨_, ?_, rfl, ?_⟩
        · rw [hn30, hx12, e3.2]; omega  -- d9
        · exact ⟨rfl, rfl, rfl, by rw [hx12, e3.2]; omega⟩  -- i10
      · skip
        refine h _ ?_
        · exact nb_1  -- q11
  · skip
    refine h _ ?_
    · exact nb_1  -- q12

end
section
set_option maxHeartbeats 1600000
/-! the class: Atlas's survey, discover -/
abbrev hpF (a : Nat) : Nat → Nat → Prop := fun f x => x = a ∧ (f = atHopeless ∨ f = atRings ∨ f = atGreatest)
theorem atW_hp {C : zC} {n0 a n : Nat} {κ τ : zS} (W : zW C n0 κ) (T : zT κ a = 3) (Z : zF (hpF a) κ τ) (R : zR τ = zR κ) (N : zN τ = zN κ) (A : atW κ a n) : atW τ a n := by
  have ne := (at_ne W T).1
  obtain ⟨A1, A2, A3, A4, A5, A6⟩ := A
  have iS : zI τ hoTotal (zR κ atStates a) = zI κ hoTotal (zR κ atStates a) := Z.i (fun z => ne.2.1 z.1)
  have iE : zI τ hoTotal (zR κ atEndings a) = zI κ hoTotal (zR κ atEndings a) := Z.i (fun z => ne.2.2 z.1)
  have iN : zI τ atNexts a = zI κ atNexts a := Z.i (fun z => absurd z.2 (by decide))
  have rw9 : ∀ f, f ∈ atRf → f ≠ atHopeless → zA τ (zR κ f a) = zA κ (zR κ f a) := fun f hf hn => by
    obtain ⟨⟨t, h1, h2⟩, h3⟩ := atRf_r f hf
    have nf : ¬ hpF a f a := fun z => by
      rcases z.2 with y | y | y
      · exact hn y
      · rw [y] at hf; exact absurd hf (by decide)
      · rw [y] at hf; exact absurd hf (by decide)
    have q := (Z.row W h1 h2 (T.trans h3.symm) nf).1
    rw [R] at q
    exact q
  refine ⟨by unfold atM; rw [R, N]; exact A1, by unfold atL; rw [R, N]; exact A2, A3, by rw [R, iS]; exact A4, by rw [iN, R, N]; exact A5, fun k hk => ?_⟩
  unfold exK
  rw [R, iS, iE, iN, rw9 atFirsts (by decide) (by decide), rw9 atTotals (by decide) (by decide), rw9 atChooses (by decide) (by decide), rw9 atSorts (by decide) (by decide), rw9 atNumbers (by decide) (by decide), rw9 atWeights (by decide) (by decide)]
  exact A6 k hk
/-- a web with its knots -/
def weS (κ : zS) (w n : Nat) : Prop := weM κ w ∧ weKn κ w n ∧ wfO n ((zN κ (zR κ weTargets w))) (zA κ (zR κ weFirsts w)) (zA κ (zR κ weTargets w)) ∧ (zN κ (zR κ weTargets w)) ≤ 20000
theorem we_z {C : zC} {n0 w f : Nat} {F : Nat → Nat → Prop} {κ τ : zS} (W : zW C n0 κ) (T : zT κ w = 14) (Z : zF F κ τ) (hF : ∀ g, ¬ F g w) (hf : f ∈ weRf) : zR τ f w = zR κ f w ∧ zA τ (zR κ f w) = zA κ (zR κ f w) ∧ zN τ (zR κ f w) = zN κ (zR κ f w) := by
  obtain ⟨⟨t, h1, h2⟩, h3⟩ := weRf_r f hf
  have T9 := T.trans h3.symm
  have ty := W.r h1 T9
  have t1 : zT κ (zR κ f w) = (t - 1) + 1 := by omega
  have q := (Z.row W h1 h2 T9 (hF f)).1
  rw [Z.r (hF f)] at q
  exact ⟨Z.r (hF f), q, Z.l t1⟩
theorem weM_z {C : zC} {n0 w : Nat} {F : Nat → Nat → Prop} {κ τ : zS} (W : zW C n0 κ) (T : zT κ w = 14) (Z : zF F κ τ) (hF : ∀ g, ¬ F g w) : (weM κ w → weM τ w) ∧ (weU κ w → weU τ w) ∧ (weL κ w → weL τ w) := by
  have g := fun f hf => we_z W T Z hF (f := f) hf
  have h : ∀ f, f ∈ weRf → zN τ (zR τ f w) = zN κ (zR κ f w) := fun f hf => by rw [(g f hf).1]; exact (g f hf).2.2
  refine ⟨fun M => ?_, fun M => ?_, fun M => ?_⟩
  · unfold weM
    rw [h weFirsts (by decide), h weBackFirsts (by decide), h weOpen (by decide), h weKnotFirsts (by decide), h weKnotOf (by decide), h weOrder (by decide), h weSeen (by decide), h weLow (by decide), h weCursor (by decide), h wePath (by decide), h weHeap (by decide)]
    exact M
  · unfold weU
    rw [h weFirsts (by decide), h weBackFirsts (by decide), h weOpen (by decide), h weKnotFirsts (by decide), h weKnotOf (by decide), h weOrder (by decide), h weSeen (by decide), h weLow (by decide), h weCursor (by decide), h wePath (by decide), h weHeap (by decide)]
    exact M
  · unfold weL
    rw [h weTargets (by decide), h weSources (by decide), h weEdges (by decide)]
    exact M
theorem weS_z {C : zC} {n0 w n : Nat} {F : Nat → Nat → Prop} {κ τ : zS} (W : zW C n0 κ) (T : zT κ w = 14) (Z : zF F κ τ) (hF : ∀ g, ¬ F g w) (S : weS κ w n) : weS τ w n := by
  obtain ⟨S1, S2, S3, S4⟩ := S
  have g := fun f hf => we_z W T Z hF (f := f) hf
  refine ⟨(weM_z W T Z hF).1 S1, ?_, ?_, ?_⟩
  · unfold weKn
    rw [(g weKnotFirsts (by decide)).1, (g weKnotFirsts (by decide)).2.1, (g weKnotOf (by decide)).1, (g weKnotOf (by decide)).2.1, (g weOrder (by decide)).1, (g weOrder (by decide)).2.1, Z.i (hF weKnots)]
    exact S2
  · rw [(g weTargets (by decide)).1, (g weTargets (by decide)).2.1, (g weTargets (by decide)).2.2, (g weFirsts (by decide)).1, (g weFirsts (by decide)).2.1]
    exact S3
  · rw [(g weTargets (by decide)).1, (g weTargets (by decide)).2.2]
    exact S4
abbrev svF (κ : zS) (a : Nat) : Nat → Nat → Prop := fun f x => hpF a f x ∨ x = zR κ atWeb a
theorem At_survey_c {C : zC} {n0 : Nat} {a0 : Nat} {κ : zS} {Q : zS → Prop} (W : zW C n0 κ) (Ta0 : zT κ a0 = 3) (m9 : Nat) (hp : ((weU κ (zR κ atWeb a0) ∨ weM κ (zR κ atWeb a0)) ∧ weL κ (zR κ atWeb a0)) ∧ atW κ a0 m9) (h : ∀ (κ' : zS), (zF (svF κ a0) κ κ' ∧ (weM κ' (zR κ atWeb a0) ∧ weL κ' (zR κ atWeb a0)) ∧ atW κ' a0 m9 ∧ zR κ' atCode a0 = zR κ atCode a0) → Q κ') : zRun C 3 mAt_survey [.ref a0] κ (oV Q noX) := by
  refine At_survey_run W Ta0 ?_
  replace W := W.lo (Nat.le_trans W.1.2.1 W.1.2.2) (Nat.le_refl (zn κ))
  unfold w_At_survey_0
  have nw : zR κ atWeb a0 ≠ a0 := fun z => by
    have t := ty_atWeb W Ta0
    rw [z, Ta0] at t
    exact absurd t (by decide)
  intro T1
  intro T2
  refine We_weave_c W T1 T2 m9 ?_ (fun κ_3 q4 => ?_)
  · exact ⟨hp.1.1, hp.1.2, hp.2⟩  -- p1
  have rw3 : zR κ_3 atWeb a0 = zR κ atWeb a0 := q4.1.r (fun z => nw z.symm)
  have T3 : zT κ_3 a0 = 3 := q4.1.t Ta0 (by decide)
  have Tw3 : zT κ_3 (zR κ atWeb a0) = 14 := q4.1.t (ty_atWeb W Ta0) (by decide)
  obtain ⟨G1, G2, G3, G4, G5⟩ := q4.2.1
  intro W5
  intro M6
  intro T7
  refine We_knot_c W5 T7 m9 ?_ (fun κ_8 q9 => ?_)
  · rw [rw3]
    exact ⟨G1.1, G2, G3, G1.2.2.2⟩
  rw [rw3] at q9
  have E8 := q9.1
  have T8 : zT κ_8 a0 = 3 := E8.1.t T3 (by decide)
  have Tw8 : zT κ_8 (zR κ atWeb a0) = 14 := E8.1.t Tw3 (by decide)
  have w8 : zR κ_8 atWeb a0 = zR κ atWeb a0 := by rw [E8.2.1]; exact rw3
  have S8 : weS κ_8 (zR κ atWeb a0) m9 := ⟨weM_K E8 G1.1, q9.2, by rw [E8.2.1, E8.2.2, kn_r W5 Tw3 E8 (f := weFirsts) (by decide) (by decide), kn_r W5 Tw3 E8 (f := weTargets) (by decide) (by decide)]; exact G3, by rw [E8.2.1, E8.2.2]; exact G1.2.2.2⟩
  have L8 : weL κ_8 (zR κ atWeb a0) := by unfold weL; rw [E8.2.1, E8.2.2]; exact G1.2
  have A8 : atW κ_8 a0 m9 := atW_E W5 Tw3 T3 (E8.1.mono (fun f x z => z.1)) q4.2.2
  have M8 := A8.1
  have nS := A8.2.2.2.1
  have n1 := A8.2.2.1
  intro W10
  intro M11
  unfold w_At_survey_18
  refine ⟨fun n l0 l1 τ => n = (1000 - l1.toInt).toNat ∧ (a0 = l0 ∧ zF (hpF a0) κ_8 τ ∧ zR τ = zR κ_8 ∧ zN τ = zN κ_8 ∧ 0 ≤ l1.toInt), ⟨_, rfl, ?_⟩, ?_⟩
  · exact ⟨rfl, zF.rf, rfl, rfl, by decide⟩  -- j3
  rintro n18 _ x18_1 κ18 W18 T18_0 ⟨hn18, rfl, i18⟩
  obtain ⟨Z18, R18, N18, k18⟩ := i18
  have kn18 := cnk k18
  have tS : zI κ18 hoTotal (zR κ18 atStates a0) = zI κ_8 hoTotal (zR κ_8 atStates a0) := by rw [R18]; exact Z18.i (fun z => (at_ne W10 T8).1.2.1 z.1)
  have hj51 : ∀ (l0 : Nat) (l1 : Int32) (s0 : Nat) (s1 : Int32) (s2 : Int32) (τ : zS), zW C (zn κ) τ → zT τ l0 = 3 → zT τ s0 = 23 → (a0 = l0 ∧ κ18 = τ ∧ s0 = zR κ_8 atHopeless a0 ∧ x18_1 = l1 ∧ x18_1 = s1 ∧ x18_1.toInt < 1000) → w_At_survey_51 C (zn κ) Q (fun (l0' : Nat) (l1' : Int32) (τ : zS) => ∃ k < n18, (fun (n : Nat) (l0 : Nat) (l1 : Int32) (τ : zS) => n = (1000 - l1.toInt).toNat ∧ (a0 = l0 ∧ zF (hpF a0) κ_8 τ ∧ zR τ = zR κ_8 ∧ zN τ = zN κ_8 ∧ 0 ≤ l1.toInt)) k l0' l1' τ) l0 l1 s0 s1 s2 τ := by
    rintro _ y51_1 y51_s0 y51_s1 y51_s2 τ51 W51 T51_0 T51_1 ⟨rfl, j51⟩
    unfold w_At_survey_51
    obtain ⟨rfl, rfl, rfl, rfl, lt⟩ := j51
    refine ⟨?_, ?_⟩
    · have l := M8.2.2.2.2.2
      rw [N18, inb_iff]; omega
    intro κ_12 hκ_12
    intro W13
    intro x14 hx14
    refine ⟨_, ?_, rfl, ?_⟩
    · have e := cn1 k18 (by omega)
      rw [hn18, hx14, e.2]; omega
    · have e := cn1 k18 (by omega)
      have o := atRf_o W18 T18_0 (f := atHopeless) (by decide)
      rw [R18] at o
      refine ⟨rfl, Z18.tr (by rw [hκ_12]; exact zF_ua (by rw [o]; exact ⟨rfl, Or.inl rfl⟩)), by rw [hκ_12]; exact R18, by rw [hκ_12]; exact N18, by rw [hx14, e.2]; omega⟩
  refine ⟨fun c15 => ?_, fun c15 => ?_⟩
  · skip
    unfold w_At_survey_60
    refine ⟨fun n l0 l1 τ => n = (1000 - l1.toInt).toNat ∧ (a0 = l0 ∧ zF (hpF a0) κ_8 τ ∧ zR τ = zR κ_8 ∧ zN τ = zN κ_8 ∧ 0 ≤ l1.toInt), ⟨_, rfl, ?_⟩, ?_⟩
    · exact ⟨rfl, Z18, R18, N18, by decide⟩  -- j7
    rintro n60 _ x60_1 κ60 W60 T60_0 ⟨hn60, rfl, i60⟩
    obtain ⟨Z60, R60, N60, k60⟩ := i60
    have kn60 := cnk k60
    have w60 : zR κ60 atWeb a0 = zR κ atWeb a0 := by rw [R60]; exact w8
    have S60 := weS_z W10 Tw8 Z60 (fun g z => nw z.1) S8
    refine ⟨fun c16 => ?_, fun c16 => ?_⟩
    · skip
      refine h _ ?_
      · have A9 := atW_hp W10 T8 Z60 R60 N60 A8
        refine ⟨((q4.1.mono (fun f x z => Or.inr z)).tr (E8.1.mono (fun f x z => Or.inr z.1))).tr (Z60.mono (fun f x z => Or.inl z)), ⟨S60.1, ?_⟩, A9, ?_⟩
        · exact (weM_z W10 Tw8 Z60 (fun g z => nw z.1)).2.2 L8
        · rw [R60, E8.2.1]; exact q4.1.r (fun z => nw z.symm)
    · skip
      intro T17
      rw [lei, w60] at c16
      have kb := S60.2.1.1
      have e := cn1 k60 (by omega)
      refine We_isRing_c W60 T17 m9 ?_ (fun r18 q20 => ?_)
      · rw [w60]
        exact ⟨S60.1, n1, S60.2.1, by omega, S60.2.2.1, S60.2.2.2⟩
      intro W21
      intro M22
      refine ⟨fun c23 => ?_, fun c23 => ?_⟩
      · skip
        intro x24 hx24
        refine ⟨_, ?_, rfl, ?_⟩
        · rw [hn60, hx24, e.2]; omega  -- d10
        · exact ⟨rfl, Z60, R60, N60, by rw [hx24, e.2]; omega⟩  -- i11
      · skip
        intro κ_25 hκ_25
        intro W26
        intro T27
        have Z25 : zF (hpF a0) κ_8 κ_25 := Z60.tr (by rw [hκ_25]; exact zF_ui ⟨rfl, Or.inr (Or.inl rfl)⟩)
        have R25 : zR κ_25 = zR κ_8 := by rw [hκ_25]; exact R60
        have N25 : zN κ_25 = zN κ_8 := by rw [hκ_25]; exact N60
        have w25 : zR κ_25 atWeb a0 = zR κ atWeb a0 := by rw [R25]; exact w8
        have S25 := weS_z W10 Tw8 Z25 (fun g z => nw z.1) S8
        have k25 : zI κ_25 weKnots (zR κ atWeb a0) = zI κ60 weKnots (zR κ atWeb a0) := by rw [hκ_25]; rfl
        refine We_sizeOf_c W26 T27 m9 ?_ (fun r28 q30 => ?_)
        · rw [w25, k25]
          exact ⟨S25.1, n1, S25.2.1, by omega⟩
        intro W31
        intro M32
        intro κ_33 hκ_33
        intro W34
        intro x35 hx35
        refine ⟨_, ?_, rfl, ?_⟩
        · rw [hn60, hx35, e.2]; omega  -- d13
        · exact ⟨rfl, Z25.tr (by rw [hκ_33]; exact zF_ui ⟨rfl, Or.inr (Or.inr rfl)⟩), by rw [hκ_33]; exact R25, by rw [hκ_33]; exact N25, by rw [hx35, e.2]; omega⟩  -- i14
  · skip
    rw [lei, tS] at c15
    refine ⟨?_, ?_⟩
    · have l := (weS_z W10 Tw8 Z18 (fun g z => nw z.1) S8).1.2.2.1
      have w18 : zR κ18 atWeb a0 = zR κ atWeb a0 := by rw [R18]; exact w8
      rw [w18, inb_iff]; omega
    refine ⟨fun c36 => ?_, fun c36 => ?_⟩
    · skip
      refine hj51 _ _ _ _ _ _ W18 ?_ ?_ ?_
      · exact T18_0  -- t16
      · exact ty_atHopeless W18 T18_0  -- t17
      · exact ⟨rfl, rfl, by rw [R18], rfl, rfl, by omega⟩  -- k18
    · skip
      refine hj51 _ _ _ _ _ _ W18 ?_ ?_ ?_
      · exact T18_0  -- t19
      · exact ty_atHopeless W18 T18_0  -- t20
      · exact ⟨rfl, rfl, by rw [R18], rfl, rfl, by omega⟩  -- k21

abbrev ds0 (κ : zS) (a : Nat) : Nat → Nat → Prop := fun f x => (x = a ∧ 304 ≤ f) ∨ x = zR κ atMachine a ∨ x = zR κ atStates a ∨ x = zR κ atEndings a
abbrev dsF (κ : zS) (a : Nat) : Nat → Nat → Prop := fun f x => ds0 κ a f x ∨ x = zR κ atWeb a
/-- the atlas at rest -/
def atI (κ : zS) (a : Nat) : Prop := ((atU κ a ∨ atM κ a) ∧ atL κ a ∧ atH κ a ∧ zR κ atStates a ≠ zR κ atEndings a) ∧ maL κ (zR κ atMachine a) ∧ ((weU κ (zR κ atWeb a) ∨ weM κ (zR κ atWeb a)) ∧ weL κ (zR κ atWeb a)) ∧ nb (zI κ atExplored a) ∧ (zI κ atExplored a ≠ 0 → ∃ n, atW κ a n)
def dsI (κ τ : zS) (a c : Nat) (m k : Int32) : Prop := zF (ds0 κ a) κ τ ∧ ldA τ a ∧ exU9 τ a k.toNatClampNeg ∧ (0 < k.toNatClampNeg → (zA τ (zR τ atFirsts a) k.toNatClampNeg).toInt = (zI τ atNexts a).toInt) ∧ 0 ≤ k.toInt ∧ (zI τ hoTotal (zR τ atStates a)).toInt ≤ m.toInt ∧ zI τ atExplored a = 0 ∧ zR τ atCode a = c
theorem ldA_0 {C : zC} {n0 a : Nat} {κ τ : zS} (W : zW C n0 κ) (T : zT κ a = 3) (A : ldA κ a) (Z : zF (fun _ x => x = zR κ atMachine a ∨ x = zR κ atStates a ∨ x = zR κ atEndings a) κ τ) (H1 : hoI τ (zR κ atStates a) 1000 142 2048) (H2 : hoI τ (zR κ atEndings a) 1000 35 2048) (R : atR τ (zR κ atMachine a)) : ldA τ a := by
  have n := at_ne W T
  have nf : ∀ f, ¬ (fun _ x => x = zR κ atMachine a ∨ x = zR κ atStates a ∨ x = zR κ atEndings a : Nat → Nat → Prop) f a := fun f z => by
    rcases z with z | z | z
    · exact n.1.1 z.symm
    · exact n.1.2.1 z.symm
    · exact n.1.2.2 z.symm
  have r : ∀ f, zR τ f a = zR κ f a := fun f => Z.r (nf f)
  have i : ∀ f, zI τ f a = zI κ f a := fun f => Z.i (nf f)
  have rw9 : ∀ f, f ∈ atRf → zN τ (zR κ f a) = zN κ (zR κ f a) := fun f hf => by
    obtain ⟨⟨t, h1, h2⟩, h3⟩ := atRf_r f hf
    have ty := W.r h1 (T.trans h3.symm)
    have t1 : zT κ (zR κ f a) = (t - 1) + 1 := by omega
    exact Z.l t1
  obtain ⟨A1, A2, A3, A4, A5, A6⟩ := A
  refine ⟨?_, ?_, ⟨?_, ?_⟩, ?_, ?_, ?_⟩
  · unfold atM
    rw [r, r, r, r, r, r, rw9 atFirsts (by decide), rw9 atTotals (by decide), rw9 atGains (by decide), rw9 atPlan (by decide), rw9 atChooses (by decide), rw9 atHopeless (by decide)]
    exact A1
  · unfold atL
    rw [r, r, r, rw9 atSorts (by decide), rw9 atNumbers (by decide), rw9 atWeights (by decide)]
    exact A2
  · rw [r]; exact H1
  · rw [r]; exact H2
  · rw [r]; exact R
  · rw [i, r, rw9 atNumbers (by decide)]; exact A5
  · rw [r, r]; exact A6
theorem maL_zF {C : zC} {n0 m : Nat} {F : Nat → Nat → Prop} {κ τ : zS} (Z : zF F κ τ) (W : zW C n0 κ) (T : zT κ m = 7) (hF : ∀ f, ¬ F f m) (H : maL κ m) : maL τ m := by
  unfold maL
  rw [Z.r (hF maMemory), Z.r (hF maStack), Z.r (hF maWorked), Z.r (hF maValues), Z.r (hF maWeights), Z.l (ty_maMemory W T), Z.l (ty_maStack W T), Z.l (ty_maWorked W T), Z.l (ty_maValues W T), Z.l (ty_maWeights W T)]
  exact H
/-- a store was entered -/
theorem ldA_h {C : zC} {n0 a h : Nat} {κ τ : zS} (W : zW C n0 κ) (T : zT κ a = 3) (A : ldA κ a) (hh : h = zR κ atStates a ∨ h = zR κ atEndings a) (Z : zF (hoF h) κ τ) (H1 : hoI τ (zR κ atStates a) 1000 142 2048) (H2 : hoI τ (zR κ atEndings a) 1000 35 2048) : ldA τ a := by
  have n := at_ne W T
  have Tm := ty_atMachine W T
  have Tc := ty_maCode W Tm
  have Th : zT κ h = 6 := by
    rcases hh with rfl | rfl
    · exact ty_atStates W T
    · exact ty_atEndings W T
  have nm : ∀ f, ¬ hoF h f (zR κ atMachine a) := fun f e => by
    have e := e.1
    rw [e, Th] at Tm
    exact absurd Tm (by decide)
  have nc : ∀ f, ¬ hoF h f (zR κ maCode (zR κ atMachine a)) := fun f e => by
    have e := e.1
    rw [e, Th] at Tc
    exact absurd Tc (by decide)
  refine ldA_0 W T A (Z.mono (fun f x q => ?_)) H1 H2 (atR_zF Z W Tm nm nc A.2.2.2.1)
  rcases hh with rfl | rfl
  · exact Or.inr (Or.inl q.1)
  · exact Or.inr (Or.inr q.1)
theorem At_discover_c {C : zC} {n0 : Nat} {a0 : Nat} {a1 : Nat} {a2 : Int32} {κ : zS} {Q : Int32 → zS → Prop} (W : zW C n0 κ) (Ta0 : zT κ a0 = 3) (Ta1 : zT κ a1 = 5)  (hp : atI κ a0 ∧ coI κ a1 ∧ (1 ≤ a2.toInt ∧ a2.toInt ≤ 1000)) (h : ∀ (v : Int32) (κ' : zS), (zF (dsF κ a0) κ κ' ∧ atI κ' a0 ∧ zR κ' atCode a0 = a1) → Q v κ') : zRun C 6 mAt_discover [.ref a0, .ref a1, .int a2] κ (oI Q noX) := by
  refine At_discover_run W Ta0 Ta1 ?_
  replace W := W.lo (Nat.le_trans W.1.2.1 W.1.2.2) (Nat.le_refl (zn κ))
  unfold w_At_discover_0
  have nw : zR κ atWeb a0 ≠ a0 := fun z => by
    have t := ty_atWeb W Ta0
    rw [z, Ta0] at t
    exact absurd t (by decide)
  have Tw := ty_atWeb W Ta0
  have Tm := ty_atMachine W Ta0
  have Ts := ty_atStates W Ta0
  have Te := ty_atEndings W Ta0
  have w1 : zR κ atWeb a0 ≠ zR κ atMachine a0 := fun z => by rw [z, Tm] at Tw; exact absurd Tw (by decide)
  have w2 : zR κ atWeb a0 ≠ zR κ atStates a0 := fun z => by rw [z, Ts] at Tw; exact absurd Tw (by decide)
  have w3 : zR κ atWeb a0 ≠ zR κ atEndings a0 := fun z => by rw [z, Te] at Tw; exact absurd Tw (by decide)
  have wd : ∀ g, ¬ ds0 κ a0 g (zR κ atWeb a0) := fun g z => by
    rcases z with z | z | z | z
    · exact nw z.1
    · exact w1 z
    · exact w2 z
    · exact w3 z
  have ne := at_ne W Ta0
  have ad : ∀ g, g < 304 → ¬ ds0 κ a0 g a0 := fun g hg z => by
    rcases z with z | z | z | z
    · have := z.2
      omega
    · exact ne.1.1 z.symm
    · exact ne.1.2.1 z.symm
    · exact ne.1.2.2 z.symm
  obtain ⟨⟨I1, I2, I3, I4⟩, I5, I6, I7, I8⟩ := hp.1
  have hj137 : ∀ (l0 : Nat) (τ : zS), zW C (zn κ) τ → zT τ l0 = 3 → (a0 = l0 ∧ ∃ m9 : Nat, zF (ds0 κ a0) κ τ ∧ ldA τ a0 ∧ atW τ a0 m9 ∧ zI τ atExplored a0 = 0 ∧ zR τ atCode a0 = a1) → w_At_discover_137 C (zn κ) Q  l0 τ := by
    rintro _ τ137 W137 T137_0 ⟨rfl, j137⟩
    unfold w_At_discover_137
    intro T1
    obtain ⟨m9, Z137, A137, W9a, x137, c137⟩ := j137
    have wt : zR τ137 atWeb a0 = zR κ atWeb a0 := Z137.r (ad atWeb (by decide))
    have V := weM_z W Tw Z137 wd
    refine At_survey_c W137 T1 m9 ?_ (fun κ_2 q3 => ?_)
    · rw [wt]
      exact ⟨⟨I6.1.elim (fun z => Or.inl (V.2.1 z)) (fun z => Or.inr (V.1 z)), V.2.2 I6.2⟩, W9a⟩
    intro W4
    intro M5
    intro κ_6 hκ_6
    intro W7
    refine h _ _ ?_
    · have n9 := at_ne W137 T137_0
      have Tw9 := ty_atWeb W137 T137_0
      have Tm9 := ty_atMachine W137 T137_0
      have Tc9 := ty_maCode W137 Tm9
      have Ts9 := ty_atStates W137 T137_0
      have Te9 := ty_atEndings W137 T137_0
      have sv : ∀ x c, zT τ137 x = c → c ≠ 3 → c ≠ 14 → ∀ f, ¬ svF τ137 a0 f x := fun x c hx h3 h14 f z => by
        rcases z with z | z
        · rw [z.1, T137_0] at hx
          exact h3 hx.symm
        · rw [z, Tw9] at hx
          exact h14 hx.symm
      have nwa : a0 ≠ zR τ137 atWeb a0 := fun z => by rw [← z, T137_0] at Tw9; exact absurd Tw9 (by decide)
      have ra : ∀ f, zR κ_2 f a0 = zR τ137 f a0 ∨ hpF a0 f a0 := fun f => by
        by_cases z : hpF a0 f a0
        · exact Or.inr z
        · exact Or.inl (q3.1.r (fun y => y.elim z (fun y => nwa y)))
      have rS : zR κ_2 atStates a0 = zR τ137 atStates a0 := (ra atStates).resolve_right (fun z => absurd z.2 (by decide))
      have rE : zR κ_2 atEndings a0 = zR τ137 atEndings a0 := (ra atEndings).resolve_right (fun z => absurd z.2 (by decide))
      have rM : zR κ_2 atMachine a0 = zR τ137 atMachine a0 := (ra atMachine).resolve_right (fun z => absurd z.2 (by decide))
      have rW : zR κ_2 atWeb a0 = zR τ137 atWeb a0 := (ra atWeb).resolve_right (fun z => absurd z.2 (by decide))
      have H1 := hoI_zF q3.1 W137 Ts9 (sv _ _ Ts9 (by decide) (by decide)) A137.2.2.1.1
      have H2 := hoI_zF q3.1 W137 Te9 (sv _ _ Te9 (by decide) (by decide)) A137.2.2.1.2
      have Lm := maL_zF q3.1 W137 Tm9 (sv _ _ Tm9 (by decide) (by decide)) A137.2.2.2.1.1.1
      have x6 : zI κ_6 atExplored a0 = 1 := by rw [hκ_6]; exact if_pos ⟨rfl, rfl⟩
      have Z6 : zF (dsF κ a0) κ_2 κ_6 := by rw [hκ_6]; exact zF_ui (Or.inl (Or.inl ⟨rfl, by decide⟩))
      have R6 : zR κ_6 = zR κ_2 := by rw [hκ_6]; rfl
      have A6 : atW κ_6 a0 m9 := by rw [hκ_6]; exact q3.2.2.1
      refine ⟨((Z137.mono (fun f x z => Or.inl z)).tr (q3.1.mono (fun f x z => ?_))).tr Z6, ⟨⟨Or.inr A6.1, A6.2.1, ⟨?_, ?_⟩, ?_⟩, ?_, ⟨Or.inr ?_, ?_⟩, by rw [x6]; exact nb_1, fun _ => ⟨m9, A6⟩⟩, ?_⟩
      · rcases z with z | z
        · refine Or.inl (Or.inl ⟨z.1, ?_⟩)
          rcases z.2 with y | y | y <;> rw [y] <;> decide
        · exact Or.inr (z.trans wt)
      · rw [R6, rS, hκ_6]; exact H1
      · rw [R6, rE, hκ_6]; exact H2
      · rw [R6, rS, rE]; exact A137.2.2.2.2.2
      · rw [R6, rM, hκ_6]; exact Lm
      · rw [R6, rW, hκ_6]; exact q3.2.1.1
      · rw [R6, rW, hκ_6]; exact q3.2.1.2
      · rw [R6, q3.2.2.2]; exact c137
  have hh104 : ∀ (l0 : Nat) (l2 : Int32) (l3 : Int32) (τ : zS), zW C (zn κ) τ → zT τ l0 = 3 → (a0 = l0 ∧ a2 = l2 ∧ dsI κ τ a0 a1 a2 l3) → w_At_discover_104 C (zn κ) Q  l0 l2 l3 τ := by
    intro z0 z2 z3 τi Wi _ hinit
    unfold w_At_discover_104
    refine ⟨fun n l0 l2 l3 τ => n = (1000 - l3.toInt).toNat ∧ (a0 = l0 ∧ a2 = l2 ∧ dsI κ τ a0 a1 a2 l3), ⟨_, rfl, hinit⟩, ?_⟩
    clear hinit
    rintro n104 _ _ x104_3 κ104 W104 T104_0 ⟨hn104, rfl, rfl, i104⟩
    obtain ⟨Z104, A104, E104, F104, k104, m104, x104, c104⟩ := i104
    have kn := cnk k104
    have t0 := A104.2.2.1.1.2.1.1
    refine ⟨fun c8 => ?_, fun c8 => ?_⟩
    · skip
      refine hj137 _ _ W104 ?_ ?_
      · exact T104_0  -- t3
      · rw [lei] at c8
        exact ⟨rfl, (zI κ104 hoTotal (zR κ104 atStates a0)).toInt.toNat, Z104, A104, ⟨A104.1, A104.2.1, by omega, by omega, A104.2.2.2.2.1.2, fun j hj => (E104 j (by omega)).1⟩, x104, c104⟩
    · skip
      refine ⟨fun c9 => ?_, fun c9 => ?_⟩
      · skip
        refine hj137 _ _ W104 ?_ ?_
        · exact T104_0  -- t5
        · rw [lei] at c8 c9
          exact ⟨rfl, (zI κ104 hoTotal (zR κ104 atStates a0)).toInt.toNat, Z104, A104, ⟨A104.1, A104.2.1, by omega, by omega, A104.2.2.2.2.1.2, fun j hj => (E104 j (by omega)).1⟩, x104, c104⟩
      · skip
        intro T10
        refine At_expand_c W104 T10  ?_ (fun r11 κ_12 q13 => ?_)
        · rw [lei] at c8 c9
          exact ⟨A104, by omega, E104, F104⟩
        rw [lei] at c8 c9
        have e := cn1 k104 (by omega)
        have n4 := at_ne W104 T104_0
        have rm : zR κ104 atMachine a0 = zR κ atMachine a0 := Z104.r (ad atMachine (by decide))
        have rs : zR κ104 atStates a0 = zR κ atStates a0 := Z104.r (ad atStates (by decide))
        have re : zR κ104 atEndings a0 = zR κ atEndings a0 := Z104.r (ad atEndings (by decide))
        have Z12 : zF (ds0 κ a0) κ κ_12 := Z104.tr (q13.2.1.mono (fun f x z => by
          rcases z with ⟨z, y⟩ | z | z | z
          · refine Or.inl ⟨z, ?_⟩
            rcases y with y | y | y | y | y | y | y | y <;> rw [y] <;> decide
          · exact Or.inr (Or.inl (z.trans rm))
          · exact Or.inr (Or.inr (Or.inl (z.trans rs)))
          · exact Or.inr (Or.inr (Or.inr (z.trans re)))))
        have nx : ∀ f, f < 306 → ¬ exF κ104 a0 f a0 := fun f hf z => by
          rcases z with ⟨z, y⟩ | z | z | z
          · rcases y with y | y | y | y | y | y | y | y <;> rw [y] at hf <;> exact absurd hf (by decide)
          · exact n4.1.1 z.symm
          · exact n4.1.2.1 z.symm
          · exact n4.1.2.2 z.symm
        have x12 : zI κ_12 atExplored a0 = 0 := (q13.2.1.i (nx atExplored (by decide))).trans x104
        have c12 : zR κ_12 atCode a0 = a1 := (q13.2.1.r (nx atCode (by decide))).trans c104
        intro W14
        intro M15
        refine ⟨fun c16 => ?_, fun c16 => ?_⟩
        · skip
          intro x17 hx17
          refine ⟨_, ?_, rfl, ?_⟩
          · rw [hn104, hx17, e.2]; omega  -- d8
          · have q := q13.2.2.2.1 c16
            rw [hx17]
            refine ⟨rfl, rfl, Z12, q13.1, by rw [e.1]; exact q.1, fun _ => by rw [e.1]; exact q.2, by rw [e.2]; omega, q13.2.2.2.2 m104, x12, c12⟩
        · skip
          refine h _ _ ?_
          · have V := weM_z W Tw Z12 wd
            have wt : zR κ_12 atWeb a0 = zR κ atWeb a0 := Z12.r (ad atWeb (by decide))
            refine ⟨Z12.mono (fun f x z => Or.inl z), ⟨⟨Or.inr q13.1.1, q13.1.2.1, q13.1.2.2.1, q13.1.2.2.2.2.2⟩, q13.1.2.2.2.1.1.1, ?_, by rw [x12]; exact nb_0, fun z => absurd x12 z⟩, c12⟩
            rw [wt]
            exact ⟨I6.1.elim (fun z => Or.inl (V.2.1 z)) (fun z => Or.inr (V.1 z)), V.2.2 I6.2⟩
  intro κ_18 hκ_18
  intro W19
  intro κ_20 hκ_20
  intro W21
  intro T22
  have Z20 : zF (fun f x => (x = a0 ∧ 304 ≤ f) ∨ x = zR κ atStates a0 ∨ x = zR κ atEndings a0) κ κ_20 := by
    rw [hκ_20, hκ_18]
    exact (zF_ui (Or.inl ⟨rfl, by decide⟩)).tr (zF_ur (Or.inl ⟨rfl, by decide⟩) (show zr atCode = some 5 by decide +kernel) (by decide))
  have r20 : ∀ f, f ≠ atCode → zR κ_20 f a0 = zR κ f a0 := fun f hf => by rw [hκ_20, hκ_18]; exact if_neg (fun z => hf z.1)
  refine At_clear_c W21 T22  ?_ (fun κ_23 q24 => ?_)
  · rw [hκ_20, hκ_18]
    exact ⟨I1, I2, I3, I4⟩
  have Zm : zF (fun f x => (x = a0 ∧ 304 ≤ f) ∨ x = zR κ atStates a0 ∨ x = zR κ atEndings a0) κ κ_23 := Z20.tr (q24.1.mono (fun f x z => by
    rcases z with ⟨z, y⟩ | z | z
    · exact Or.inl ⟨z, Nat.le_trans (by decide) y⟩
    · exact Or.inr (Or.inl (z.trans (r20 atStates (by decide))))
    · exact Or.inr (Or.inr (z.trans (r20 atEndings (by decide))))))
  have nm : ∀ x c, zT κ x = c → c ≠ 3 → c ≠ 6 → ∀ f, ¬ (fun f x => (x = a0 ∧ 304 ≤ f) ∨ x = zR κ atStates a0 ∨ x = zR κ atEndings a0 : Nat → Nat → Prop) f x := fun x c hx h3 h6 f z => by
    rcases z with z | z | z
    · rw [z.1, Ta0] at hx; exact h3 hx.symm
    · rw [z, Ts] at hx; exact h6 hx.symm
    · rw [z, Te] at hx; exact h6 hx.symm
  have na : ∀ f, f < 304 → ¬ (fun f x => (x = a0 ∧ 304 ≤ f) ∨ x = zR κ atStates a0 ∨ x = zR κ atEndings a0 : Nat → Nat → Prop) f a0 := fun f hf z => by
    rcases z with z | z | z
    · have := z.2
      omega
    · exact ne.1.2.1 z.symm
    · exact ne.1.2.2 z.symm
  have rM : zR κ_23 atMachine a0 = zR κ atMachine a0 := Zm.r (na atMachine (by decide))
  have rS : zR κ_23 atStates a0 = zR κ atStates a0 := Zm.r (na atStates (by decide))
  have rE : zR κ_23 atEndings a0 = zR κ atEndings a0 := Zm.r (na atEndings (by decide))
  have T23 : zT κ_23 a0 = 3 := Zm.t Ta0 (by decide)
  have L23 : maL κ_23 (zR κ_23 atMachine a0) := by rw [rM]; exact maL_zF Zm W Tm (nm _ _ Tm (by decide) (by decide)) I5
  have C23 : coI κ_23 a1 := coI_zF Zm W Ta1 (nm _ _ Ta1 (by decide) (by decide)) hp.2.1
  have cl : ∀ f, f < 306 → ¬ clF κ_20 a0 f a0 := fun f hf z => by
    rcases z with z | z | z
    · have z2 := z.2
      have e6 : (atFirsts : Nat) = 306 := rfl
      omega
    · rw [r20 atStates (by decide)] at z
      exact ne.1.2.1 z.symm
    · rw [r20 atEndings (by decide)] at z
      exact ne.1.2.2 z.symm
  have x23 : zI κ_23 atExplored a0 = 0 := by
    rw [q24.1.i (cl atExplored (by decide)), hκ_20, hκ_18]
    exact if_pos ⟨rfl, rfl⟩
  have c23 : zR κ_23 atCode a0 = a1 := by
    rw [q24.1.r (cl atCode (by decide)), hκ_20]
    exact if_pos ⟨rfl, rfl⟩
  have ne23 : zR κ_23 atStates a0 ≠ zR κ_23 atEndings a0 := by rw [rS, rE]; exact I4
  intro W25
  intro M26
  intro T27
  intro T28
  have n3 := at_ne W25 T23
  refine Ma_begin_c W25 T27 T28  ?_ (fun κ_29 q30 => ?_)
  · exact ⟨L23, C23⟩  -- p12
  have r29 : ∀ f, zR κ_29 f a0 = zR κ_23 f a0 := fun f => q30.1.r (fun z => n3.1.1 z.symm)
  have i29 : ∀ f, zI κ_29 f a0 = zI κ_23 f a0 := fun f => q30.1.i (fun z => n3.1.1 z.symm)
  have T29 : zT κ_29 a0 = 3 := q30.1.t T23 (by decide)
  have tq : zI κ_29 hoTotal (zR κ_29 atStates a0) = 0 := by rw [r29, q30.1.i (fun z => n3.2.1 z.symm)]; exact q24.2.2.2.2.1.1
  have ln : ∀ f, f ∈ atRf → zN κ_29 (zR κ_29 f a0) = zN κ_23 (zR κ_23 f a0) := fun f hf => by
    obtain ⟨⟨t, h1, h2⟩, h3⟩ := atRf_r f hf
    have ty := W25.r h1 (T23.trans h3.symm)
    have t1 : zT κ_23 (zR κ_23 f a0) = (t - 1) + 1 := by omega
    rw [r29]
    exact q30.1.l t1
  have A29 : ldA κ_29 a0 := by
    refine ⟨?_, ?_, ⟨?_, ?_⟩, ?_, ?_, ?_⟩
    · unfold atM
      rw [ln atFirsts (by decide), ln atTotals (by decide), ln atGains (by decide), ln atPlan (by decide), ln atChooses (by decide), ln atHopeless (by decide)]
      exact q24.2.1
    · unfold atL
      rw [ln atSorts (by decide), ln atNumbers (by decide), ln atWeights (by decide)]
      exact q24.2.2.1
    · rw [r29]; exact hoI_zF q30.1 W25 (ty_atStates W25 T23) (fun f z => n3.2.1 z.symm) q24.2.2.2.1.1
    · rw [r29]; exact hoI_zF q30.1 W25 (ty_atEndings W25 T23) (fun f z => n3.2.2 z.symm) q24.2.2.2.1.2
    · rw [r29]; exact ⟨q30.2.2.1, q30.2.2.2.1, q30.2.2.2.2.1⟩
    · rw [i29, q24.2.2.2.2.2.1, t0i]; omega
    · rw [r29, r29]; exact ne23
  have Z29 : zF (ds0 κ a0) κ κ_29 := (Zm.mono (fun f x z => by
    rcases z with z | z | z
    · exact Or.inl z
    · exact Or.inr (Or.inr (Or.inl z))
    · exact Or.inr (Or.inr (Or.inr z)))).tr (q30.1.mono (fun f x z => Or.inr (Or.inl (z.trans rM))))
  have sS : zR κ_29 atStates a0 = zR κ atStates a0 := (r29 atStates).trans rS
  have sE : zR κ_29 atEndings a0 = zR κ atEndings a0 := (r29 atEndings).trans rE
  intro W31
  intro M32
  have n29 := at_ne W31 T29
  refine ⟨fun c33 => ?_, fun c33 => ?_⟩
  · skip
    intro T34
    refine Ma_length_c W31 T34  (fun r35 q37 => ?_)
    intro W38
    intro M39
    intro T40
    intro T41
    refine Ho_enter_c W38 T40 T41 1000 142 2048 ?_ (fun r42 κ_43 q44 => ?_)
    · have O := A29.2.2.2.1.2.2.resolve_right c33
      refine ⟨A29.2.2.1.1, hP1, ?_⟩
      rw [q37]
      exact mO_l O
    have T43 : zT κ_43 a0 = 3 := q44.1.t T29 (by decide)
    intro W45
    intro M46
    refine hh104 _ _ _ _ W45 (by assumption) ?_
    · have a9 : ∀ f, ¬ hoF (zR κ_29 atStates a0) f a0 := fun f z => n29.1.2.1 z.1.symm
      have r43 : ∀ f, zR κ_43 f a0 = zR κ_29 f a0 := fun f => q44.1.r (a9 f)
      have i43 : ∀ f, zI κ_43 f a0 = zI κ_29 f a0 := fun f => q44.1.i (a9 f)
      have A43 : ldA κ_43 a0 := ldA_h W31 T29 A29 (Or.inl rfl) q44.1 q44.2.1 (hoI_zF q44.1 W31 (ty_atEndings W31 T29) (fun f z => A29.2.2.2.2.2 z.1.symm) A29.2.2.1.2)
      refine ⟨rfl, rfl, Z29.tr (q44.1.mono (fun f x z => Or.inr (Or.inr (Or.inl (z.1.trans sS))))), A43, fun j hj => absurd hj (Nat.not_lt_zero _), fun hj => absurd hj (Nat.not_lt_zero _), by decide, ?_, by rw [i43, i29]; exact x23, by rw [r43, r29]; exact c23⟩
      rw [r43]
      rcases q44.2.2.2.2 with y | y
      · rw [y, tq, t0i]; omega
      · have y1 := y.1
        rw [tq, t0i] at y1
        omega
  · skip
    refine ⟨?_, ?_⟩
    · have Lm := A29.2.2.2.1.1.1.1
      have sb := A29.2.2.2.1.2.1
      rw [inb_iff]; omega
    intro κ_47 hκ_47
    intro W48
    intro T49
    intro T50
    have f47 := mF_ua W31 (ty_atMachine W31 T29) (show zr maMemory = some 20 by decide +kernel) (by decide) hκ_47
    have R47 := f47.1.2.1
    have T47 : zT κ_47 a0 = 3 := f47.1.1.t T29 (by decide)
    have A47 : ldA κ_47 a0 := by
      refine ldA_0 W31 T29 A29 (f47.1.1.mono (fun f x q => Or.inl q)) (hoI_zF f47.1.1 W31 (ty_atStates W31 T29) (fun f e => n29.2.1 e.symm) A29.2.2.1.1) (hoI_zF f47.1.1 W31 (ty_atEndings W31 T29) (fun f e => n29.2.2 e.symm) A29.2.2.1.2) ⟨(mkI_f f47.1 W31 (ty_atMachine W31 T29) A29.2.2.2.1.1).1, by rw [f47.2.2]; exact A29.2.2.2.1.2.1, ?_⟩
      unfold mO
      rw [f47.2.2]
      exact A29.2.2.2.1.2.2
    have e1 : (zI κ_47 maShared (zR κ_47 atMachine a0) + 1).toInt = (zI κ_29 maShared (zR κ_29 atMachine a0)).toInt + 1 := by
      have sb := A29.2.2.2.1.2.1
      rw [f47.2.2, R47]
      exact (cn1 sb.1 (by omega)).2
    refine Ho_enter_c W48 T49 T50 1000 35 2048 ?_ (fun r51 κ_52 q53 => ?_)
    · refine ⟨A47.2.2.1.2, hP2, ?_⟩
      have sb := A29.2.2.2.1.2.1
      rw [e1]; omega
    have T52 : zT κ_52 a0 = 3 := q53.1.t T47 (by decide)
    intro W54
    intro M55
    refine hh104 _ _ _ _ W54 (by assumption) ?_
    · have n47 := at_ne W48 T47
      have a9 : ∀ f, ¬ hoF (zR κ_47 atEndings a0) f a0 := fun f z => n47.1.2.2 z.1.symm
      have r52 : ∀ f, zR κ_52 f a0 = zR κ_29 f a0 := fun f => (q53.1.r (a9 f)).trans (by rw [R47])
      have i52 : ∀ f, zI κ_52 f a0 = zI κ_29 f a0 := fun f => (q53.1.i (a9 f)).trans (by rw [f47.2.2])
      have A52 : ldA κ_52 a0 := ldA_h W48 T47 A47 (Or.inr rfl) q53.1 (hoI_zF q53.1 W48 (ty_atStates W48 T47) (fun f z => A47.2.2.2.2.2 z.1) A47.2.2.1.1) q53.2.1
      refine ⟨rfl, rfl, (Z29.tr (f47.1.1.mono (fun f x z => Or.inr (Or.inl (z.trans ((r29 atMachine).trans rM)))))).tr (q53.1.mono (fun f x z => Or.inr (Or.inr (Or.inr (z.1.trans (by rw [R47]; exact sE)))))), A52, fun j hj => absurd hj (Nat.not_lt_zero _), fun hj => absurd hj (Nat.not_lt_zero _), by decide, ?_, by rw [i52, i29]; exact x23, by rw [r52, r29]; exact c23⟩
      have ns9 : zR κ_29 atStates a0 ≠ zR κ_47 atEndings a0 := by rw [R47]; exact A29.2.2.2.2.2
      rw [r52, q53.1.i (fun z => ns9 z.1), f47.2.2, tq, t0i]
      omega

end
