set_option maxHeartbeats 1600000
/-! the class: Hoard's enter, by what the rows hold -/
theorem hk_m9 {S S' P P' : Nat → Int32} {T T' : Int} {K : Nat → Int32} {L : Int} {g n : Nat} {e : Int} (hg : g < n) (hT : T = (n : Int)) (hT' : T' = (n : Int) ∨ T' = (n : Int) + 1) (hs : ∀ k, k ≤ n → (S' k).toInt = (S k).toInt) (hb : ∀ k, k < n → 0 ≤ (S k).toInt ∧ (S (k + 1)).toInt ≤ e) (hp : ∀ i : Nat, (i : Int) < e → P' i = P i) : hkM9 S' P' T' K L g ↔ hkM9 S P T K L g := by
  unfold hkM9
  have s0 := hs g (by omega)
  have s1 := hs (g + 1) (by omega)
  have b := hb g hg
  rw [s0, s1]
  constructor
  · rintro ⟨a1, a2, a3⟩
    exact ⟨by omega, a2, fun i hi => by rw [← hp _ (by omega)]; exact a3 i hi⟩
  · rintro ⟨a1, a2, a3⟩
    exact ⟨by omega, a2, fun i hi => by rw [hp _ (by omega)]; exact a3 i hi⟩
/-- what entering a row leaves -/
def enP9 (κ κ' : zS) (h M D S : Nat) (K : Nat → Int32) (L m v : Int32) : Prop := hoU9 κ' h S ∧ (∀ K' L' g, hkS9 κ h S K' L' g → hkS9 κ' h S K' L' g) ∧ (0 ≤ v.toInt → hkS9 κ' h S K L v.toNatClampNeg) ∧ (∀ g : Nat, hkS9 κ h S K L g → κ' = κ ∧ v.toInt = (g : Int)) ∧ (v.toInt < 0 → m.toInt ≤ (zI κ hoTotal h).toInt ∨ (M : Int) ≤ (zI κ hoTotal h).toInt ∨ (D : Int) < L.toInt) ∧ ∀ g i : Int32, g.toInt < (zI κ hoTotal h).toInt → pV9 κ' h g i = pV9 κ h g i
theorem en_f9 {κ κ' : zS} {h M D S j : Nat} {K : Nat → Int32} {L m v x l5 : Int32} (A : hoA κ h M D S) (P : hoP M D S) (U : hoU9 κ h S) (t0 : 0 ≤ (zI κ hoTotal h).toInt) (hj : j < S) (hx : x = hs9 S K L j) (hw : hkW9 κ h S K L j) (z0 : zA κ (zR κ hoTable h) x.toNatClampNeg = 0) (hL : 0 ≤ L.toInt) (hl : l5.toInt = (zA κ (zR κ hoStarts h) (((zI κ hoTotal h).toInt).toNat)).toInt) (e0 : (zI κ' hoTotal h).toInt = (zI κ hoTotal h).toInt + 1) (hb : (zI κ hoTotal h).toInt < 4000) (ev : v.toInt = (zI κ hoTotal h).toInt) (es : ∀ k, k ≤ ((zI κ hoTotal h).toInt).toNat → (zA κ' (zR κ' hoStarts h) k).toInt = (zA κ (zR κ hoStarts h) k).toInt) (en : (zA κ' (zR κ' hoStarts h) (((zI κ hoTotal h).toInt).toNat + 1)).toInt = l5.toInt + L.toInt) (ep : ∀ i : Nat, (i : Int) < l5.toInt → zA κ' (zR κ' hoPool h) i = zA κ (zR κ hoPool h) i) (eq : ∀ i : Nat, (i : Int) < L.toInt → zA κ' (zR κ' hoPool h) (l5.toInt.toNat + i) = K i) (et : ∀ i, zA κ' (zR κ' hoTable h) i = if i = x.toNatClampNeg then zI κ' hoTotal h else zA κ (zR κ hoTable h) i) : enP9 κ κ' h M D S K L m v := by
  obtain ⟨hS, hM⟩ := hoP_S9 P
  have kv := cnk (x := v) (by omega)
  have l0 : 0 ≤ l5.toInt := by rw [hl]; exact hoA_0 A (Nat.le_refl _)
  have row : ∀ K' L' g, g < ((zI κ hoTotal h).toInt).toNat → (hk9 κ' h K' L' g ↔ hk9 κ h K' L' g) := fun K' L' g hg => hk_m9 (n := ((zI κ hoTotal h).toInt).toNat) (e := l5.toInt) hg (by omega) (Or.inr (by omega)) es (fun k hk => ⟨hoA_0 A (by omega), by rw [hl]; exact hoA_mono A _ _ (by omega) (Nat.le_refl _)⟩) ep
  have sl : ∀ K' L' i, (hs9 S K' L' i).toNatClampNeg < S := fun K' L' i => by
    have r := hsl_r9 (s := hhs9 K' L' L'.toNatClampNeg) hS i
    have k := cnk r.1
    show (hsl9 (hhs9 K' L' L'.toNatClampNeg) (Int32.ofNat S - 1) i).toNatClampNeg < S
    omega
  have ne : ∀ i, zA κ (zR κ hoTable h) i ≠ 0 → zA κ' (zR κ' hoTable h) i = zA κ (zR κ hoTable h) i := fun i hi => by
    rw [et]
    exact if_neg (fun y => hi (by rw [y]; exact z0))
  have way : ∀ K' L' j', hkW9 κ h S K' L' j' → hkW9 κ' h S K' L' j' := fun K' L' j' w i hi => by
    obtain ⟨a, b⟩ := w i hi
    have t := A.2.2.2.2.2 _ (sl K' L' i)
    have n0 : (zA κ (zR κ hoTable h) (hs9 S K' L' i).toNatClampNeg).toInt ≠ 0 := fun y => a (Int32.toInt_inj.mp y)
    rw [ne _ a]
    exact ⟨a, fun y => b ((row _ _ _ (by omega)).mp y)⟩
  have hn : hk9 κ' h K L.toInt v.toNatClampNeg := by
    have v9 : v.toNatClampNeg = ((zI κ hoTotal h).toInt).toNat := by omega
    rw [v9]
    have s1 := es ((zI κ hoTotal h).toInt).toNat (Nat.le_refl _)
    refine ⟨by omega, by rw [en, s1, ← hl]; omega, fun i hi => ?_⟩
    rw [s1, ← hl]
    exact eq i hi
  refine ⟨fun i k hi hk h1 h2 => ?_, fun K' L' g H => ?_, fun _ => ⟨hn, j, hj, way _ _ _ hw, ?_⟩, fun g H => ?_, fun y => by omega, fun g i hg => ?_⟩
  · have ti := A.2.2.2.2.2 i hi
    have tk := A.2.2.2.2.2 k hk
    rw [et] at h1
    rw [et, et] at h2
    by_cases y : i = x.toNatClampNeg
    · by_cases w : k = x.toNatClampNeg
      · rw [y, w]
      · rw [if_pos y, if_neg w] at h2
        have q := congrArg Int32.toInt h2
        omega
    · rw [if_neg y] at h1 h2
      by_cases w : k = x.toNatClampNeg
      · rw [if_pos w] at h2
        have q := congrArg Int32.toInt h2
        omega
      · rw [if_neg w] at h2
        exact U i k hi hk h1 h2
  · obtain ⟨H1, j', H2, H3, H4⟩ := H
    have g1 := H1.1
    refine ⟨(row _ _ _ (by omega)).mpr H1, j', H2, way _ _ _ H3, ?_⟩
    rw [ne _ (fun y => by rw [y, t0i] at H4; omega)]
    exact H4
  · rw [← hx, et, if_pos rfl, e0]
    omega
  · obtain ⟨H1, j', H2, H3, H4⟩ := H
    exfalso
    by_cases y : j < j'
    · exact (H3 j y).1 (by rw [← hx]; exact z0)
    · by_cases w : j' < j
      · have q := (hw j' w).2
        rw [H4] at q
        rw [show ((g : Int) + 1 - 1).toNat = g by omega] at q
        exact q H1
      · have q : j' = j := by omega
        rw [q, ← hx, z0, t0i] at H4
        omega
  · unfold pV9
    by_cases y : 0 ≤ g.toInt
    · have kg := cnk y
      have s0 := es g.toNatClampNeg (by omega)
      have s1 := es (g.toNatClampNeg + 1) (by omega)
      have b0 := hoA_0 A (k := g.toNatClampNeg) (by omega)
      have b1 : (zA κ (zR κ hoStarts h) (g.toNatClampNeg + 1)).toInt ≤ l5.toInt := by rw [hl]; exact hoA_mono A _ _ (by omega) (Nat.le_refl _)
      rw [s0, s1]
      by_cases w : 0 ≤ i.toInt ∧ i.toInt < (zA κ (zR κ hoStarts h) (g.toNatClampNeg + 1)).toInt - (zA κ (zR κ hoStarts h) g.toNatClampNeg).toInt
      · have ki := cnk w.1
        rw [if_pos ⟨⟨y, by omega⟩, w⟩, if_pos ⟨⟨y, hg⟩, w⟩]
        exact ep _ (by omega)
      · rw [if_neg (fun q => w q.2), if_neg (fun q => w q.2)]
    · rw [if_neg (fun q => y q.1.1), if_neg (fun q => y q.1.1)]
theorem en_o9 {κ : zS} {h M D S j : Nat} {K : Nat → Int32} {L m v x : Int32} (U : hoU9 κ h S) (hj : j < S) (hx : x = hs9 S K L j) (hw : hkW9 κ h S K L j) (z1 : (zA κ (zR κ hoTable h) x.toNatClampNeg).toInt = v.toInt + 1) (hv : 0 ≤ v.toInt) (hk : hk9 κ h K L.toInt ((zA κ (zR κ hoTable h) x.toNatClampNeg).toInt - 1).toNat) : enP9 κ κ h M D S K L m v := by
  have kv := cnk hv
  rw [z1, show (v.toInt + 1 - 1).toNat = v.toNatClampNeg by omega] at hk
  refine ⟨U, fun _ _ _ H => H, fun _ => ⟨hk, j, hj, hw, by rw [← hx, z1]; omega⟩, fun g H => ⟨rfl, ?_⟩, fun y => by omega, fun _ _ _ => rfl⟩
  obtain ⟨H1, j', H2, H3, H4⟩ := H
  by_cases y : j < j'
  · have q := (H3 j y).2
    rw [← hx, z1, show (v.toInt + 1 - 1).toNat = v.toNatClampNeg by omega] at q
    exact absurd hk q
  · by_cases w : j' < j
    · have q := (hw j' w).2
      rw [H4, show ((g : Int) + 1 - 1).toNat = g by omega] at q
      exact absurd H1 q
    · have q : j' = j := by omega
      rw [q, ← hx, z1] at H4
      omega
theorem en_n9 {κ : zS} {h M D S j : Nat} {K : Nat → Int32} {L m x : Int32} (U : hoU9 κ h S) (hx : x = hs9 S K L j) (hw : hkW9 κ h S K L j) (z0 : zA κ (zR κ hoTable h) x.toNatClampNeg = 0) (hf : m.toInt ≤ (zI κ hoTotal h).toInt ∨ (M : Int) ≤ (zI κ hoTotal h).toInt ∨ (D : Int) < L.toInt) : enP9 κ κ h M D S K L m (-1) := by
  refine ⟨U, fun _ _ _ H => H, fun y => absurd y (by decide), fun g H => ?_, fun _ => hf, fun _ _ _ => rfl⟩
  exfalso
  obtain ⟨H1, j', H2, H3, H4⟩ := H
  by_cases y : j < j'
  · exact (H3 j y).1 (by rw [← hx]; exact z0)
  · by_cases w : j' < j
    · have q := (hw j' w).2
      rw [H4, show ((g : Int) + 1 - 1).toNat = g by omega] at q
      exact q H1
    · have q : j' = j := by omega
      rw [q, ← hx, z0, t0i] at H4
      omega
theorem Ho_enter_c2 {C : zC} {n0 : Nat} {a0 : Nat} {a1 : Nat} {a2 : Int32} {a3 : Int32} {κ : zS} {Q : Int32 → zS → Prop} (W : zW C n0 κ) (Ta0 : zT κ a0 = 6) (Ta1 : zT κ a1 = 20) (M D S : Nat) (hp : hoI κ a0 M D S ∧ hoP M D S ∧ 0 ≤ a2.toInt ∧ hoA κ a0 M D S ∧ hoU9 κ a0 S ∧ a2.toInt ≤ zN κ a1) (h : ∀ (v : Int32) (κ' : zS), ((zF (hoF a0) κ κ' ∧ hoI κ' a0 M D S ∧ hoA κ' a0 M D S ∧ -1 ≤ v.toInt ∧ v.toInt < (zI κ' hoTotal a0).toInt ∧ enS κ κ' a0 a2 a3 v) ∧ enP9 κ κ' a0 M D S (zA κ a1) a2 a3 v) → Q v κ') : zRun C 2 mHo_enter [.ref a0, .ref a1, .int a2, .int a3] κ (oI Q noX) := by
  refine Ho_enter_run W Ta0 Ta1 ?_
  replace W := W.lo (Nat.le_trans W.1.2.1 W.1.2.2) (Nat.le_refl (zn κ))
  unfold w_Ho_enter_0
  obtain ⟨H, P, h2, A, U, c2⟩ := hp
  have B := hoP_b P
  have nN := W.n Ta1
  have pN := W.n (ty_hoPool W Ta0)
  have b0 := H.2.1.1
  have b1 := H.2.1.2
  have tl : zN κ (zR κ hoTable a0) = S := A.1
  have hj125 : ∀ (l0 : Nat) (l1 : Nat) (l2 : Int32) (l4 : Int32) (l5 : Int32) (τ : zS), zW C (zn κ) τ → zT τ l0 = 6 → zT τ l1 = 20 → (a0 = l0 ∧ a1 = l1 ∧ a2 = l2 ∧ enJ κ τ a0 a1 M D S a2 a3 l4 l5 ∧ (∀ i : Nat, (i : Int) < l5.toInt → zA τ (zR τ hoPool a0) i = zA κ (zR κ hoPool a0) i) ∧ zA τ a1 = zA κ a1 ∧ zA κ (zR κ hoTable a0) l4.toNatClampNeg = 0 ∧ ∃ j, j < S ∧ l4 = hs9 S (zA κ a1) a2 j ∧ hkW9 κ a0 S (zA κ a1) a2 j) → w_Ho_enter_125 C (zn κ) Q  l0 l1 l2 l4 l5 τ := by
    rintro _ _ _ y125_4 y125_5 τ125 W125 T125_0 T125_1 ⟨rfl, rfl, rfl, j125⟩
    unfold w_Ho_enter_125
    obtain ⟨J, Jp, J1, Jz, j9, jj, jx, jw⟩ := j125
    have J' := J
    obtain ⟨⟨j0, j1⟩, A, ⟨jM, j3, jD, jn⟩, jl, F, jI, ⟨jS, jT⟩, ⟨aS, aT⟩, jp1, jp2, jp3⟩ := J'
    have l0 : 0 ≤ y125_5.toInt := by rw [jl]; exact hoA_0 A (Nat.le_refl _)
    have k5 := cnk l0
    have k2 := cnk h2
    have lS : zN τ125 (zR κ hoStarts a0) = zN κ (zR κ hoStarts a0) := F.l (ty_hoStarts W Ta0)
    have lT : zN τ125 (zR κ hoTable a0) = zN κ (zR κ hoTable a0) := F.l (ty_hoTable W Ta0)
    have l1 : zN τ125 a1 = zN κ a1 := F.l Ta1
    refine ⟨?_, ?_⟩
    · refine ⟨by decide, by rw [lei, t0i]; exact l0, by rw [lei, t0i]; exact h2, ?_, ?_⟩
      · rw [l1]
        show 0 + a2.toNatClampNeg ≤ _
        omega
      · omega
    intro κ_1 hκ_1
    intro W2
    intro κ_3 hκ_3
    intro W4
    have i3 : zI κ_3 hoTotal a0 = zI κ hoTotal a0 + 1 := by
      rw [hκ_3]
      refine (if_pos ⟨rfl, rfl⟩).trans ?_
      rw [hκ_1]
      show zI τ125 hoTotal a0 + 1 = _
      rw [jI]
    have t3 : (zI κ_3 hoTotal a0).toInt = (zI κ hoTotal a0).toInt + 1 := by rw [i3, add_i (by rw [t1i]; omega) (by rw [t1i]; omega), t1i]
    have r3 : zR κ_3 = zR τ125 := by rw [hκ_3, hκ_1]; rfl
    have m3 : zN κ_3 = zN τ125 := by rw [hκ_3, hκ_1]; rfl
    refine ⟨?_, ?_⟩
    · rw [inb_iff, t3, r3, m3, jS, lS, show zN κ (zR κ hoStarts a0) = M + 1 from A.2.1]; omega  -- b2
    intro κ_5 hκ_5
    intro W6
    refine ⟨?_, ?_⟩
    · have r5 : zR κ_5 = zR τ125 := by rw [hκ_5]; exact r3
      have m5 : zN κ_5 = zN τ125 := by rw [hκ_5]; exact m3
      rw [inb_iff, r5, m5, jT, lT, show zN κ (zR κ hoTable a0) = S from A.1]; exact ⟨j0, j1⟩
    intro κ_7 hκ_7
    intro W8
    refine h _ _ ?_
    · have Q := en_q W Ta0 W125 H P h2 J hκ_1 hκ_3 hκ_5 hκ_7
      have Tt : zT τ125 a0 = 6 := T125_0
      have nSP : zR τ125 hoStarts a0 ≠ zR τ125 hoPool a0 := ow_ne W125 (by decide +kernel : zr hoStarts = some 20) (by decide) Tt (by decide +kernel : zr hoPool = some 20) (by decide) Tt (by decide)
      have nTP : zR τ125 hoTable a0 ≠ zR τ125 hoPool a0 := ow_ne W125 (by decide +kernel : zr hoTable = some 20) (by decide) Tt (by decide +kernel : zr hoPool = some 20) (by decide) Tt (by decide)
      have nST : zR τ125 hoStarts a0 ≠ zR τ125 hoTable a0 := ow_ne W125 (by decide +kernel : zr hoStarts = some 20) (by decide) Tt (by decide +kernel : zr hoTable = some 20) (by decide) Tt (by decide)
      have r5 : zR κ_5 = zR τ125 := by rw [hκ_5]; exact r3
      have r7 : zR κ_7 = zR τ125 := by rw [hκ_7]; exact r5
      have i7 : zI κ_7 = zI κ_3 := by rw [hκ_7, hκ_5]; rfl
      have i5 : zI κ_5 = zI κ_3 := by rw [hκ_5]; rfl
      have x1 : zA κ_1 (zR τ125 hoPool a0) = va_cpy (zA τ125 a1) (zA τ125 (zR τ125 hoPool a0)) 0 y125_5.toNatClampNeg a2.toNatClampNeg := by rw [hκ_1]; exact if_pos rfl
      have x3 : zA κ_3 = zA κ_1 := by rw [hκ_3]; rfl
      have x7p : zA κ_7 (zR τ125 hoPool a0) = va_cpy (zA τ125 a1) (zA τ125 (zR τ125 hoPool a0)) 0 y125_5.toNatClampNeg a2.toNatClampNeg := by
        rw [hκ_7, r5]
        refine (if_neg (Ne.symm nTP)).trans ?_
        rw [hκ_5, r3]
        refine (if_neg (Ne.symm nSP)).trans ?_
        show zA κ_3 (zR τ125 hoPool a0) = _
        rw [x3, x1]
      have x5t : zA κ_5 (zR τ125 hoTable a0) = zA κ (zR κ hoTable a0) := by
        rw [hκ_5, r3]
        refine (if_neg (Ne.symm nST)).trans ?_
        show zA κ_3 (zR τ125 hoTable a0) = _
        rw [x3, hκ_1]
        refine (if_neg nTP).trans ?_
        show zA τ125 (zR τ125 hoTable a0) = _
        rw [jT]
        exact aT
      have x7t : zA κ_7 (zR τ125 hoTable a0) = upd (zA κ (zR κ hoTable a0)) y125_4.toNatClampNeg (zI κ_3 hoTotal a0) := by
        rw [hκ_7, r5, i5]
        refine (if_pos rfl).trans ?_
        show upd (zA κ_5 (zR τ125 hoTable a0)) _ _ = _
        rw [x5t]
      have A7 : hoA κ_7 a0 M D S := hoI_A Q.2.1 (Or.inl (by rw [i7]; omega))
      refine ⟨⟨Q.1, Q.2.1, A7, Q.2.2⟩, ?_⟩
      rcases Q.2.2.2.2 with z | z
      · exfalso
        rw [z] at i7
        have q := congrArg (fun f => (f hoTotal a0).toInt) i7
        omega
      · refine en_f9 (l5 := y125_5) (x := y125_4) A P U b0 jj jx jw Jz h2 jl z.1 (by omega) z.2.1 z.2.2.2.1 (by rw [z.2.2.2.2, jl]) (fun i hi => ?_) (fun i hi => ?_) (fun i => ?_)
        · rw [r7, x7p]
          unfold va_cpy
          rw [if_neg (by omega)]
          exact Jp i hi
        · rw [r7, x7p, ← J1]
          unfold va_cpy
          rw [if_pos (by omega)]
          congr 1
          omega
        · rw [r7, x7t, i7]
          rfl
  refine ⟨fun c9 => ?_, fun c9 => ?_⟩
  · skip
    refine h _ _ ?_
    · exfalso
      have e := congrArg Int32.toInt c9
      rw [tl, ofn_i (by omega), t0i] at e
      omega
  · skip
    refine ⟨fun c10 => ?_, fun c10 => ?_⟩
    · skip
      intro T11
      intro T12
      refine Ho_slotOf_c2 W T11 T12 M D S ?_ (fun r13 q15 => ?_)
      · exact ⟨A, P, b0, b1, H.2.2.1.2, c2, U, h2⟩  -- p6
      intro W16
      intro M17
      obtain ⟨qr9, j9, jj, jx, jw, jz⟩ := q15
      refine ⟨?_, ?_⟩
      · rw [inb_iff, tl]; exact qr9  -- b7
      refine ⟨fun c18 => ?_, fun c18 => ?_⟩
      · skip
        refine ⟨fun c19 => ?_, fun c19 => ?_⟩
        · skip
          refine h _ _ ?_
          · rw [lei] at c19
            exact ⟨⟨zF.rf, H, A, by decide, by rw [tmi]; omega, Or.inl rfl⟩, en_n9 U jx jw c18 (Or.inl c19)⟩
        · skip
          refine ⟨fun c20 => ?_, fun c20 => ?_⟩
          · skip
            refine h _ _ ?_
            · rw [lei, H.1.1] at c20
              exact ⟨⟨zF.rf, H, A, by decide, by rw [tmi]; omega, Or.inl rfl⟩, en_n9 U jx jw c18 (Or.inr (Or.inl c20))⟩
          · skip
            have d1 : (zI κ hoTotal a0).toInt < a3.toInt := by rw [lei] at c19; omega
            have d2 : (zI κ hoTotal a0).toInt < M := by rw [lei, H.1.1] at c20; omega
            have kt := cnk b0
            have kn : (zI κ hoTotal a0).toNatClampNeg = ((zI κ hoTotal a0).toInt).toNat := rfl
            refine ⟨fun c21 => ?_, fun c21 => ?_⟩
            · skip
              refine ⟨?_, ?_⟩
              · rw [inb_iff, show zN κ (zR κ hoStarts a0) = M + 1 from A.2.1]; omega  -- b10
              intro x22 hx22
              rw [kn] at hx22
              have d3 : a2.toInt ≤ D := by rw [lei, H.1.2.1] at c21; exact c21
              have f0 := hoA_0 A (Nat.le_refl ((zI κ hoTotal a0).toInt).toNat)
              have f1 : (zA κ (zR κ hoStarts a0) (((zI κ hoTotal a0).toInt).toNat)).toInt ≤ (((zI κ hoTotal a0).toInt).toNat : Int) * D := hoA_D A _ (Nat.le_refl _)
              have f2 := A.2.2.2.2.1
              have f3 := H.2.2.1
              have ex : x22.toInt = (zA κ (zR κ hoStarts a0) (((zI κ hoTotal a0).toInt).toNat)).toInt := by rw [hx22]
              have ea : (x22 + a2).toInt = x22.toInt + a2.toInt := add_i (by omega) (by omega)
              refine ⟨fun c23 => ?_, fun c23 => ?_⟩
              · skip
                refine hj125 _ _ _ _ _ _ W16 ?_ ?_ ?_
                · exact Ta0  -- t11
                · exact Ta1  -- t12
                · rw [lei, ea, ofn_i pN] at c23
                  exact ⟨rfl, rfl, rfl, ⟨qr9, A, ⟨d2, d1, d3, c2⟩, ex, zF.rf, rfl, ⟨rfl, rfl⟩, ⟨rfl, rfl⟩, c23, f3.1, f3.2⟩, fun _ _ => rfl, rfl, c18, j9, jj, jx, jw⟩
              · skip
                intro T24
                have c24 : (zN κ (zR κ hoPool a0) : Int) < x22.toInt + a2.toInt := by rw [lei, ea, ofn_i pN] at c23; omega
                have md : (zI κ hoMost a0 * zI κ hoWidest a0).toInt = (M : Int) * D := by rw [mul_i (by rw [H.1.1, H.1.2.1]; omega) (by rw [H.1.1, H.1.2.1]; omega), H.1.1, H.1.2.1]
                have mu : ((x22 + a2) * 2).toInt = (x22.toInt + a2.toInt) * 2 := by rw [mul_i (by rw [ea, t2i]; omega) (by rw [ea, t2i]; omega), ea, t2i]
                have up : x22.toInt + a2.toInt ≤ (M : Int) * D := by
                  have g : ((((zI κ hoTotal a0).toInt).toNat + 1 : Nat) : Int) * D ≤ (M : Int) * D := Int.mul_le_mul_of_nonneg_right (by omega) (Int.natCast_nonneg D)
                  have g2 : ((((zI κ hoTotal a0).toInt).toNat + 1 : Nat) : Int) * D = (((zI κ hoTotal a0).toInt).toNat : Int) * D + D := by rw [Int.natCast_add]; simp [Int.add_mul]
                  omega
                obtain ⟨nn, hnn⟩ : ∃ nn, nn = (if zI κ hoMost a0 * zI κ hoWidest a0 < (x22 + a2) * 2 then zI κ hoMost a0 * zI κ hoWidest a0 else (x22 + a2) * 2) := ⟨_, rfl⟩
                rw [← hnn]
                have nt : x22.toInt + a2.toInt ≤ nn.toInt ∧ nn.toInt ≤ (M : Int) * D ∧ (nn.toInt = (M : Int) * D ∨ nn.toInt = (x22.toInt + a2.toInt) * 2) := by
                  rw [hnn]
                  by_cases z : zI κ hoMost a0 * zI κ hoWidest a0 < (x22 + a2) * 2
                  · rw [if_pos z, md]; exact ⟨up, Int.le_refl _, Or.inl rfl⟩
                  · rw [if_neg z, mu]
                    rw [lti, md, mu] at z
                    exact ⟨by omega, by omega, Or.inr rfl⟩
                have kn9 := cnk (x := nn) (by omega)
                refine Ar_copyOf_c W16 T24  ?_ (fun r25 κ_26 q27 => ?_)
                · exact ⟨⟨by rw [lei, t0i]; omega, by omega⟩, fun e => by
                    have e9 := congrArg Int32.toInt e
                    rw [ofn_i pN] at e9
                    omega⟩
                intro W28
                intro M29
                intro T30
                refine ⟨?_, ?_⟩
                · rw [q27.1]; exact q27.2.2.1  -- b15
                intro κ_31 hκ_31
                intro W32
                have h9 : κ_31 = uo κ_26 hoPool a0 (zn κ) := by rw [hκ_31, q27.1]
                have hw := wS_pool (n := nn.toNatClampNeg) (o := zN κ (zR κ hoPool a0)) (by omega) (by omega) (by
                  rcases nt.2.2 with z | z
                  · left
                    have z2 : (nn.toNatClampNeg : Int) = (M * D : Nat) := by rw [kn9, z]; simp
                    have z3 : nn.toNatClampNeg = M * D := by omega
                    rw [z3]
                    rcases P with ⟨rfl, rfl, rfl⟩ | ⟨rfl, rfl, rfl⟩ | ⟨rfl, rfl, rfl⟩
                    · exact Or.inl rfl
                    · exact Or.inr (Or.inl rfl)
                    · exact Or.inr (Or.inr rfl)
                  · right; omega)
                have F9 : zF (hoF a0) κ κ_31 := zF_uo (t := 20) (n := nn.toNatClampNeg) (f := hoPool) (q := 20) W (by decide +kernel) (by decide) Ta0 (by decide) ⟨rfl, Or.inr (Or.inr (Or.inl rfl))⟩ q27.2.1 h9 hw.1 hw.2
                have gc := q27.2.2.2.1
                obtain ⟨g1, g2, g3, g4, g5, -⟩ := q27.2.1
                have rp : zR κ_31 hoPool a0 = zn κ := by rw [h9]; exact if_pos ⟨rfl, rfl⟩
                have gp : zN κ_31 (zR κ_31 hoPool a0) = nn.toNatClampNeg := by
                  rw [rp, h9]
                  show zN κ_26 (zn κ) = _
                  rw [g2]; exact if_pos rfl
                refine hj125 _ _ _ _ _ _ W32 ?_ ?_ ?_
                · exact F9.t Ta0 (by decide)  -- t16
                · exact F9.t Ta1 (by decide)  -- t17
                · refine ⟨rfl, rfl, rfl, ⟨qr9, A, ⟨d2, d1, d3, c2⟩, ex, F9, by rw [h9]; exact g3, ⟨?_, ?_⟩, ⟨?_, ?_⟩, ?_, ?_, ?_⟩, fun i hi => ?_, ?_, c18, j9, jj, jx, jw⟩
                  · rw [h9]; exact (uo_ne (by decide)).trans (by rw [g4])
                  · rw [h9]; exact (uo_ne (by decide)).trans (by rw [g4])
                  · rw [h9]; exact (g5 _ (W.nw (ty_hoStarts W Ta0))).1
                  · rw [h9]; exact (g5 _ (W.nw (ty_hoTable W Ta0))).1
                  · rw [gp]; omega
                  · rw [gp]; omega
                  · rw [gp]; omega
                  · rw [rp, h9]
                    show zA κ_26 (zn κ) i = _
                    have f9 : (zA κ (zR κ hoStarts a0) (((zI κ hoTotal a0).toInt).toNat)).toInt ≤ zN κ (zR κ hoPool a0) := f2
                    exact gc i (by omega) (by omega)
                  · rw [h9]; exact (g5 _ (W.nw Ta1)).1
            · skip
              refine h _ _ ?_
              · rw [lei, H.1.2.1] at c21
                exact ⟨⟨zF.rf, H, A, by decide, by rw [tmi]; omega, Or.inl rfl⟩, en_n9 U jx jw c18 (Or.inr (Or.inr (by omega)))⟩
      · skip
        refine ⟨?_, ?_⟩
        · rw [inb_iff, tl]; exact qr9  -- b20
        refine h _ _ ?_
        · have z := A.2.2.2.2.2 r13.toNatClampNeg (by have := cnk qr9.1; omega)
          have e : (zA κ (zR κ hoTable a0) r13.toNatClampNeg - 1).toInt = (zA κ (zR κ hoTable a0) r13.toNatClampNeg).toInt - 1 := by rw [sub_i (by rw [t1i]; omega) (by rw [t1i]; omega), t1i]
          have nz9 : (zA κ (zR κ hoTable a0) r13.toNatClampNeg).toInt ≠ 0 := fun y => c18 (Int32.toInt_inj.mp y)
          refine ⟨⟨zF.rf, H, A, by rw [e]; omega, by rw [e]; omega, Or.inl rfl⟩, en_o9 U jj jx jw (by rw [e]; omega) (by rw [e]; omega) ?_⟩
          rcases jz with y | y
          · exact absurd y c18
          · exact y
    · skip
      refine h _ _ ?_
      · exfalso
        rw [lei, ofn_i nN] at c10
        omega
