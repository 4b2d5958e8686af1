set_option maxHeartbeats 1600000
/-! the class: what holds between calls, at the start -/
def clF9 : List (Nat × Nat × Nat × Nat) := (1, 1, 0, 0) :: cl9_45
def rlL9 : List (Nat × Nat) := [(77, 10), (79, 10), (81, 10), (83, 10), (85, 10), (87, 9), (92, 1), (94, 20), (95, 21), (97, 22), (99, 4), (101, 5), (103, 6), (105, 7), (107, 8), (113, 15), (128, 30), (129, 31), (131, 32)]
def rlG9 : List (Nat × Nat) → Nat → Nat
  | [], _ => 0
  | e :: l, b => if b = e.1 then e.2 else rlG9 l b
theorem rlG_m9 {b : Nat} : ∀ {l : List (Nat × Nat)}, rlG9 l b ≠ 0 → b ∈ l.map (fun e => e.1)
  | [], h => absurd rfl h
  | e :: l, h => by
    by_cases z : b = e.1
    · rw [z]; exact List.mem_cons_self
    · have q : rlG9 (e :: l) b = rlG9 l b := if_neg z
      rw [q] at h
      exact List.mem_cons_of_mem _ (rlG_m9 h)
theorem lg_i9 {k n b f x : Nat} {κ : zS} {L : List (Nat × Nat × Nat × Nat)} (H : lgH9 k κ n L) (hb : 0 < b) (h : lgI9 L f b = x) : zI κ f (k + b) = Int32.ofNat x := by rw [H.2.2.2.1 f b hb, h]
theorem lg_r9 {k n b f r : Nat} {κ : zS} {L : List (Nat × Nat × Nat × Nat)} (H : lgH9 k κ n L) (hb : 0 < b) (hr : 0 < r) (h : lgR9 L f b = r) : zR κ f (k + b) = k + r := by
  rw [H.2.2.2.2.1 f b hb, h]
  exact if_neg (by omega)
theorem lg_n9 {k n b x : Nat} {κ : zS} {L : List (Nat × Nat × Nat × Nat)} (H : lgH9 k κ n L) (hb : 0 < b) (h : lgN9 L b = x) : zN κ (k + b) = x := by rw [H.2.2.1 b hb, h]
theorem lg_y9 {k n b t : Nat} {κ : zS} {L : List (Nat × Nat × Nat × Nat)} (H : lgH9 k κ n L) (hb : 0 < b) (h : lgT9 L b = t) : zT κ (k + b) = t := by rw [H.2.1 b hb, h]
theorem lg_z9 {b j : Nat} : ∀ {L : List (Nat × Nat × Nat × Nat)}, (∀ e ∈ L, ¬ (e.1 = 6 ∧ e.2.1 = b)) → lgA9 L b j = 0
  | [], _ => rfl
  | e :: L, h => by
    have n := h e List.mem_cons_self
    have q := lg_z9 (L := L) (j := j) (fun x hx => h x (List.mem_cons_of_mem _ hx))
    show (if e.1 = 2 ∧ b = e.2.1 then 0 else if e.1 = 6 ∧ b = e.2.1 ∧ j = e.2.2.1 then e.2.2.2 else lgA9 L b j) = 0
    by_cases z : e.1 = 2 ∧ b = e.2.1
    · rw [if_pos z]
    · rw [if_neg z, if_neg (fun y => n ⟨y.1, y.2.1.symm⟩), q]
theorem lg_a9 {k n b : Nat} {κ : zS} {L : List (Nat × Nat × Nat × Nat)} (H : lgH9 k κ n L) (hb : 0 < b) (h : ∀ e ∈ L, ¬ (e.1 = 6 ∧ e.2.1 = b)) (j : Nat) : zA κ (k + b) j = 0 := by
  rw [H.2.2.2.2.2.1 b j hb, lg_z9 h]
  rfl
/-- a number at its start: 0, or 1 -/
theorem lg_nu9 {k n b r m c : Nat} {κ : zS} {L : List (Nat × Nat × Nat × Nat)} (H : lgH9 k κ n L) (hb : 0 < b) (h : lgR9 L nuLimbs b = r ∧ 0 < r ∧ lgN9 L r = m ∧ lgI9 L nuLength b = 0) (hm : 2 ≤ m ∧ m ≤ c) : nuC κ (k + b) c ∧ nuI κ (k + b) c ∧ nuN κ (k + b) = 0 := by
  have e := lg_r9 H hb h.2.1 h.1
  have e2 : zN κ (zR κ nuLimbs (k + b)) = m := by rw [e]; exact lg_n9 H h.2.1 h.2.2.1
  have q := nu_new9 e2 (lg_i9 H hb h.2.2.2) hm.1
  have i := nuI_mono hm.2 q.1
  exact ⟨i.1.2.1, i, q.2⟩
theorem lg_nu19 {k n b r m c : Nat} {κ : zS} {L : List (Nat × Nat × Nat × Nat)} (H : lgH9 k κ n L) (hb : 0 < b) (h : lgR9 L nuLimbs b = r ∧ 0 < r ∧ lgN9 L r = m ∧ lgI9 L nuLength b = 1 ∧ lgA9 L r 0 = 1) (hm : 2 ≤ m ∧ m ≤ c) : nuC κ (k + b) c ∧ nuI κ (k + b) c := by
  obtain ⟨h1, h2, h3, h4, h5⟩ := h
  have e := lg_r9 H hb h2 h1
  have e2 : zN κ (k + r) = m := lg_n9 H h2 h3
  have e3 : (zI κ nuLength (k + b)).toInt = 1 := by rw [lg_i9 H hb h4]; rfl
  have e4 : (zA κ (k + r) 0).toInt = 1 := by rw [H.2.2.2.2.2.1 r 0 h2, h5]; rfl
  have c1 : nuC κ (k + b) c := by unfold nuC; rw [e, e2]; exact hm
  refine ⟨c1, ⟨⟨by rw [e3]; decide, by rw [e3, e, e2]; omega⟩, c1, fun i hi => ?_⟩, fun _ => ?_⟩
  · rw [e3] at hi
    have z : i = 0 := by omega
    rw [z, e, e4]
    decide
  · rw [e3, e]
    show 0 < (zA κ (k + r) 0).toInt
    rw [e4]
    decide
theorem zSum_k9 {f : Nat → Nat} {k : Nat} : ∀ {n : Nat}, zSum (k + n) f = zSum k f + zSum n (fun b => f (k + b))
  | 0 => rfl
  | n + 1 => by
    show zSum (k + n) f + f (k + n) = zSum k f + (zSum n (fun b => f (k + b)) + f (k + n))
    rw [zSum_k9 (n := n)]
    omega
theorem lg_c9 {k n t : Nat} {κ : zS} {L : List (Nat × Nat × Nat × Nat)} (ht : t ≠ 0) (H : lgH9 k κ n L) (h0 : lgT9 L 0 = 0) : nT9 t κ = zSum n (fun b => if lgT9 L b = t then 1 else 0) := by
  unfold nT9
  rw [H.1, zSum_k9]
  have z : zSum k (fun b => if zT κ b = t then 1 else 0) = 0 := by
    rw [zSum_z9 (m := 0) (Nat.zero_le _) (fun b _ hb => if_neg (by rw [H.2.2.2.2.2.2.2.2.1 b (by omega)]; exact fun e => ht e.symm))]
    rfl
  rw [z, Nat.zero_add]
  refine zSum_eq (fun b _ => ?_)
  by_cases e : b = 0
  · rw [e, h0, Nat.add_zero, H.2.2.2.2.2.2.2.2.1 k (Nat.le_refl _)]
  · rw [H.2.1 b (by omega)]
def rho9 (k : Nat) : Nat → Nat := fun x => rlG9 rlL9 (x - k)
theorem rho_k9 {k b : Nat} : rho9 k (k + b) = rlG9 rlL9 b := by
  unfold rho9
  rw [Nat.add_sub_cancel_left]
theorem rho_n9 {k x : Nat} (h : rho9 k x ≠ 0) : ∃ b, x = k + b ∧ b ∈ rlL9.map (fun e => e.1) := by
  have m := rlG_m9 h
  refine ⟨x - k, ?_, m⟩
  have p : ∀ b ∈ rlL9.map (fun e => e.1), 0 < b := by decide
  have q := p _ m
  omega
theorem st_nm9 {k : Nat} {κ : zS} (H : lgH9 k κ 138 clF9) : nmI (rho9 k) κ := by
  refine ⟨fun w h => ?_, fun v h => ?_⟩
  · obtain ⟨b, rfl, hb⟩ := rho_n9 (k := k) (x := w) (fun e => by rw [e] at h; revert h; unfold nmR; decide)
    rw [rho_k9] at h ⊢
    have l : rlL9.map (fun e => e.1) = [77, 79, 81, 83, 85, 87, 92, 94, 95, 97, 99, 101, 103, 105, 107, 113, 128, 129, 131] := rfl
    rw [l] at hb
    simp only [List.mem_cons, List.not_mem_nil, or_false] at hb
    rcases hb with rfl | rfl | rfl | rfl | rfl | rfl | rfl | rfl | rfl | rfl | rfl | rfl | rfl | rfl | rfl | rfl | rfl | rfl | rfl
    · have q := lg_nu9 (b := 77) (r := 78) (m := 8) (c := 6500) H (by decide) (by decide +kernel) (by decide)
      exact ⟨lg_y9 H (by decide) (by decide +kernel), q.1, fun _ => q.2.1⟩
    · have q := lg_nu9 (b := 79) (r := 80) (m := 8) (c := 6500) H (by decide) (by decide +kernel) (by decide)
      exact ⟨lg_y9 H (by decide) (by decide +kernel), q.1, fun _ => q.2.1⟩
    · have q := lg_nu9 (b := 81) (r := 82) (m := 8) (c := 6500) H (by decide) (by decide +kernel) (by decide)
      exact ⟨lg_y9 H (by decide) (by decide +kernel), q.1, fun _ => q.2.1⟩
    · have q := lg_nu9 (b := 83) (r := 84) (m := 8) (c := 6500) H (by decide) (by decide +kernel) (by decide)
      exact ⟨lg_y9 H (by decide) (by decide +kernel), q.1, fun _ => q.2.1⟩
    · have q := lg_nu9 (b := 85) (r := 86) (m := 8) (c := 6500) H (by decide) (by decide +kernel) (by decide)
      exact ⟨lg_y9 H (by decide) (by decide +kernel), q.1, fun _ => q.2.1⟩
    · have q := lg_nu9 (b := 87) (r := 88) (m := 8) (c := 6500) H (by decide) (by decide +kernel) (by decide)
      exact ⟨lg_y9 H (by decide) (by decide +kernel), q.1, fun _ => q.2.1⟩
    · have q := lg_nu9 (b := 92) (r := 93) (m := 4) (c := 6500) H (by decide) (by decide +kernel) (by decide)
      exact ⟨lg_y9 H (by decide) (by decide +kernel), q.1, fun _ => q.2.1⟩
    · exact absurd h (by show ¬ nmR 20; unfold nmR; decide)
    · have q := lg_nu9 (b := 95) (r := 96) (m := 4) (c := 6500) H (by decide) (by decide +kernel) (by decide)
      exact ⟨lg_y9 H (by decide) (by decide +kernel), q.1, fun _ => q.2.1⟩
    · have q := lg_nu19 (b := 97) (r := 98) (m := 4) (c := 6500) H (by decide) (by decide +kernel) (by decide)
      exact ⟨lg_y9 H (by decide) (by decide +kernel), q.1, fun _ => q.2⟩
    · have q := lg_nu9 (b := 99) (r := 100) (m := 2) (c := 6500) H (by decide) (by decide +kernel) (by decide)
      exact ⟨lg_y9 H (by decide) (by decide +kernel), q.1, fun _ => q.2.1⟩
    · have q := lg_nu9 (b := 101) (r := 102) (m := 4) (c := 6500) H (by decide) (by decide +kernel) (by decide)
      exact ⟨lg_y9 H (by decide) (by decide +kernel), q.1, fun _ => q.2.1⟩
    · have q := lg_nu9 (b := 103) (r := 104) (m := 4) (c := 6500) H (by decide) (by decide +kernel) (by decide)
      exact ⟨lg_y9 H (by decide) (by decide +kernel), q.1, fun _ => q.2.1⟩
    · have q := lg_nu9 (b := 105) (r := 106) (m := 4) (c := 6500) H (by decide) (by decide +kernel) (by decide)
      exact ⟨lg_y9 H (by decide) (by decide +kernel), q.1, fun _ => q.2.1⟩
    · have q := lg_nu9 (b := 107) (r := 108) (m := 4) (c := 6500) H (by decide) (by decide +kernel) (by decide)
      exact ⟨lg_y9 H (by decide) (by decide +kernel), q.1, fun _ => q.2.1⟩
    · have q := lg_nu9 (b := 113) (r := 114) (m := 4) (c := 6500) H (by decide) (by decide +kernel) (by decide)
      exact ⟨lg_y9 H (by decide) (by decide +kernel), q.1, fun _ => q.2.1⟩
    · exact absurd h (by show ¬ nmR 30; unfold nmR; decide)
    · have q := lg_nu9 (b := 129) (r := 130) (m := 2) (c := 6500) H (by decide) (by decide +kernel) (by decide)
      exact ⟨lg_y9 H (by decide) (by decide +kernel), q.1, fun _ => q.2.1⟩
    · have q := lg_nu19 (b := 131) (r := 132) (m := 2) (c := 6500) H (by decide) (by decide +kernel) (by decide)
      exact ⟨lg_y9 H (by decide) (by decide +kernel), q.1, fun _ => q.2⟩
  · obtain ⟨b, rfl, hb⟩ := rho_n9 (k := k) (x := v) (fun e => by rw [e] at h; revert h; unfold raR; decide)
    rw [rho_k9] at h ⊢
    have l : rlL9.map (fun e => e.1) = [77, 79, 81, 83, 85, 87, 92, 94, 95, 97, 99, 101, 103, 105, 107, 113, 128, 129, 131] := rfl
    rw [l] at hb
    simp only [List.mem_cons, List.not_mem_nil, or_false] at hb
    rcases hb with rfl | rfl | rfl | rfl | rfl | rfl | rfl | rfl | rfl | rfl | rfl | rfl | rfl | rfl | rfl | rfl | rfl | rfl | rfl
    · exact absurd h (by show ¬ raR 10; unfold raR; decide)
    · exact absurd h (by show ¬ raR 10; unfold raR; decide)
    · exact absurd h (by show ¬ raR 10; unfold raR; decide)
    · exact absurd h (by show ¬ raR 10; unfold raR; decide)
    · exact absurd h (by show ¬ raR 10; unfold raR; decide)
    · exact absurd h (by show ¬ raR 9; unfold raR; decide)
    · exact absurd h (by show ¬ raR 1; unfold raR; decide)
    · rw [lg_r9 (r := 95) (f := raTop) (b := 94) H (by decide) (by decide) (by decide +kernel), lg_r9 (r := 97) (f := raBottom) (b := 94) H (by decide) (by decide) (by decide +kernel), rho_k9, rho_k9]
      exact ⟨lg_y9 H (by decide) (by decide +kernel), rfl, rfl⟩
    · exact absurd h (by show ¬ raR 21; unfold raR; decide)
    · exact absurd h (by show ¬ raR 22; unfold raR; decide)
    · exact absurd h (by show ¬ raR 4; unfold raR; decide)
    · exact absurd h (by show ¬ raR 5; unfold raR; decide)
    · exact absurd h (by show ¬ raR 6; unfold raR; decide)
    · exact absurd h (by show ¬ raR 7; unfold raR; decide)
    · exact absurd h (by show ¬ raR 8; unfold raR; decide)
    · exact absurd h (by show ¬ raR 15; unfold raR; decide)
    · rw [lg_r9 (r := 129) (f := raTop) (b := 128) H (by decide) (by decide) (by decide +kernel), lg_r9 (r := 131) (f := raBottom) (b := 128) H (by decide) (by decide) (by decide +kernel), rho_k9, rho_k9]
      exact ⟨lg_y9 H (by decide) (by decide +kernel), rfl, rfl⟩
    · exact absurd h (by show ¬ raR 31; unfold raR; decide)
    · exact absurd h (by show ¬ raR 32; unfold raR; decide)
theorem ch_st9 {k : Nat} {κ : zS} (H : lgH9 k κ 138 clF9) : chI9 (rho9 k) κ (k + 1) 0 := by
  have e_taBytes_2 : zR κ taBytes (k + 2) = k + 3 := lg_r9 H (by decide) (by decide) (by decide +kernel)
  have n_3 : zN κ (k + 3) = 240 := lg_n9 H (by decide) (by decide +kernel)
  have e_taKinds_2 : zR κ taKinds (k + 2) = k + 4 := lg_r9 H (by decide) (by decide) (by decide +kernel)
  have n_4 : zN κ (k + 4) = 64 := lg_n9 H (by decide) (by decide +kernel)
  have e_taPlaces_2 : zR κ taPlaces (k + 2) = k + 5 := lg_r9 H (by decide) (by decide) (by decide +kernel)
  have n_5 : zN κ (k + 5) = 64 := lg_n9 H (by decide) (by decide +kernel)
  have e_taLengths_2 : zR κ taLengths (k + 2) = k + 6 := lg_r9 H (by decide) (by decide) (by decide +kernel)
  have n_6 : zN κ (k + 6) = 64 := lg_n9 H (by decide) (by decide +kernel)
  have e_chTape_1 : zR κ chTape (k + 1) = k + 2 := lg_r9 H (by decide) (by decide) (by decide +kernel)
  have e_coVarStarts_7 : zR κ coVarStarts (k + 7) = k + 8 := lg_r9 H (by decide) (by decide) (by decide +kernel)
  have n_8 : zN κ (k + 8) = 10 := lg_n9 H (by decide) (by decide +kernel)
  have e_coArrayBases_7 : zR κ coArrayBases (k + 7) = k + 9 := lg_r9 H (by decide) (by decide) (by decide +kernel)
  have n_9 : zN κ (k + 9) = 3 := lg_n9 H (by decide) (by decide +kernel)
  have e_coArraySizes_7 : zR κ coArraySizes (k + 7) = k + 10 := lg_r9 H (by decide) (by decide) (by decide +kernel)
  have n_10 : zN κ (k + 10) = 3 := lg_n9 H (by decide) (by decide +kernel)
  have e_coFirstStatements_7 : zR κ coFirstStatements (k + 7) = k + 11 := lg_r9 H (by decide) (by decide) (by decide +kernel)
  have n_11 : zN κ (k + 11) = 10 := lg_n9 H (by decide) (by decide +kernel)
  have e_coNameCounts_7 : zR κ coNameCounts (k + 7) = k + 12 := lg_r9 H (by decide) (by decide) (by decide +kernel)
  have n_12 : zN κ (k + 12) = 10 := lg_n9 H (by decide) (by decide +kernel)
  have e_coOwnCounts_7 : zR κ coOwnCounts (k + 7) = k + 13 := lg_r9 H (by decide) (by decide) (by decide +kernel)
  have n_13 : zN κ (k + 13) = 10 := lg_n9 H (by decide) (by decide +kernel)
  have e_coRows_7 : zR κ coRows (k + 7) = k + 14 := lg_r9 H (by decide) (by decide) (by decide +kernel)
  have n_14 : zN κ (k + 14) = 88 := lg_n9 H (by decide) (by decide +kernel)
  have e_coOps_7 : zR κ coOps (k + 7) = k + 15 := lg_r9 H (by decide) (by decide) (by decide +kernel)
  have n_15 : zN κ (k + 15) = 64 := lg_n9 H (by decide) (by decide +kernel)
  have e_coArgs_7 : zR κ coArgs (k + 7) = k + 16 := lg_r9 H (by decide) (by decide) (by decide +kernel)
  have n_16 : zN κ (k + 16) = 64 := lg_n9 H (by decide) (by decide +kernel)
  have e_chCode_1 : zR κ chCode (k + 1) = k + 7 := lg_r9 H (by decide) (by decide) (by decide +kernel)
  have e_coVarStarts_17 : zR κ coVarStarts (k + 17) = k + 18 := lg_r9 H (by decide) (by decide) (by decide +kernel)
  have n_18 : zN κ (k + 18) = 10 := lg_n9 H (by decide) (by decide +kernel)
  have e_coArrayBases_17 : zR κ coArrayBases (k + 17) = k + 19 := lg_r9 H (by decide) (by decide) (by decide +kernel)
  have n_19 : zN κ (k + 19) = 3 := lg_n9 H (by decide) (by decide +kernel)
  have e_coArraySizes_17 : zR κ coArraySizes (k + 17) = k + 20 := lg_r9 H (by decide) (by decide) (by decide +kernel)
  have n_20 : zN κ (k + 20) = 3 := lg_n9 H (by decide) (by decide +kernel)
  have e_coFirstStatements_17 : zR κ coFirstStatements (k + 17) = k + 21 := lg_r9 H (by decide) (by decide) (by decide +kernel)
  have n_21 : zN κ (k + 21) = 10 := lg_n9 H (by decide) (by decide +kernel)
  have e_coNameCounts_17 : zR κ coNameCounts (k + 17) = k + 22 := lg_r9 H (by decide) (by decide) (by decide +kernel)
  have n_22 : zN κ (k + 22) = 10 := lg_n9 H (by decide) (by decide +kernel)
  have e_coOwnCounts_17 : zR κ coOwnCounts (k + 17) = k + 23 := lg_r9 H (by decide) (by decide) (by decide +kernel)
  have n_23 : zN κ (k + 23) = 10 := lg_n9 H (by decide) (by decide +kernel)
  have e_coRows_17 : zR κ coRows (k + 17) = k + 24 := lg_r9 H (by decide) (by decide) (by decide +kernel)
  have n_24 : zN κ (k + 24) = 88 := lg_n9 H (by decide) (by decide +kernel)
  have e_coOps_17 : zR κ coOps (k + 17) = k + 25 := lg_r9 H (by decide) (by decide) (by decide +kernel)
  have n_25 : zN κ (k + 25) = 64 := lg_n9 H (by decide) (by decide +kernel)
  have e_coArgs_17 : zR κ coArgs (k + 17) = k + 26 := lg_r9 H (by decide) (by decide) (by decide +kernel)
  have n_26 : zN κ (k + 26) = 64 := lg_n9 H (by decide) (by decide +kernel)
  have e_chSpare_1 : zR κ chSpare (k + 1) = k + 17 := lg_r9 H (by decide) (by decide) (by decide +kernel)
  have e_paTape_27 : zR κ paTape (k + 27) = k + 2 := lg_r9 H (by decide) (by decide) (by decide +kernel)
  have e_paCode_27 : zR κ paCode (k + 27) = k + 17 := lg_r9 H (by decide) (by decide) (by decide +kernel)
  have e_paVarNames_27 : zR κ paVarNames (k + 27) = k + 28 := lg_r9 H (by decide) (by decide) (by decide +kernel)
  have n_28 : zN κ (k + 28) = 10 := lg_n9 H (by decide) (by decide +kernel)
  have e_paArrayNames_27 : zR κ paArrayNames (k + 27) = k + 29 := lg_r9 H (by decide) (by decide) (by decide +kernel)
  have n_29 : zN κ (k + 29) = 3 := lg_n9 H (by decide) (by decide +kernel)
  have e_paFunctionNames_27 : zR κ paFunctionNames (k + 27) = k + 30 := lg_r9 H (by decide) (by decide) (by decide +kernel)
  have n_30 : zN κ (k + 30) = 10 := lg_n9 H (by decide) (by decide +kernel)
  have e_paOwnNames_27 : zR κ paOwnNames (k + 27) = k + 31 := lg_r9 H (by decide) (by decide) (by decide +kernel)
  have n_31 : zN κ (k + 31) = 8 := lg_n9 H (by decide) (by decide +kernel)
  have e_paOwners_27 : zR κ paOwners (k + 27) = k + 32 := lg_r9 H (by decide) (by decide) (by decide +kernel)
  have n_32 : zN κ (k + 32) = 41 := lg_n9 H (by decide) (by decide +kernel)
  have e_paLasts_27 : zR κ paLasts (k + 27) = k + 33 := lg_r9 H (by decide) (by decide) (by decide +kernel)
  have n_33 : zN κ (k + 33) = 41 := lg_n9 H (by decide) (by decide +kernel)
  have e_paElses_27 : zR κ paElses (k + 27) = k + 34 := lg_r9 H (by decide) (by decide) (by decide +kernel)
  have n_34 : zN κ (k + 34) = 41 := lg_n9 H (by decide) (by decide +kernel)
  have e_paWaiting_27 : zR κ paWaiting (k + 27) = k + 35 := lg_r9 H (by decide) (by decide) (by decide +kernel)
  have n_35 : zN κ (k + 35) = 16 := lg_n9 H (by decide) (by decide +kernel)
  have e_chParser_1 : zR κ chParser (k + 1) = k + 27 := lg_r9 H (by decide) (by decide) (by decide +kernel)
  have e_maCode_36 : zR κ maCode (k + 36) = k + 7 := lg_r9 H (by decide) (by decide) (by decide +kernel)
  have e_maMemory_36 : zR κ maMemory (k + 36) = k + 37 := lg_r9 H (by decide) (by decide) (by decide +kernel)
  have n_37 : zN κ (k + 37) = 142 := lg_n9 H (by decide) (by decide +kernel)
  have e_maStack_36 : zR κ maStack (k + 36) = k + 38 := lg_r9 H (by decide) (by decide) (by decide +kernel)
  have n_38 : zN κ (k + 38) = 256 := lg_n9 H (by decide) (by decide +kernel)
  have e_maWorked_36 : zR κ maWorked (k + 36) = k + 39 := lg_r9 H (by decide) (by decide) (by decide +kernel)
  have n_39 : zN κ (k + 39) = 16 := lg_n9 H (by decide) (by decide +kernel)
  have e_maValues_36 : zR κ maValues (k + 36) = k + 40 := lg_r9 H (by decide) (by decide) (by decide +kernel)
  have n_40 : zN κ (k + 40) = 64 := lg_n9 H (by decide) (by decide +kernel)
  have e_maWeights_36 : zR κ maWeights (k + 36) = k + 41 := lg_r9 H (by decide) (by decide) (by decide +kernel)
  have n_41 : zN κ (k + 41) = 64 := lg_n9 H (by decide) (by decide +kernel)
  have e_chMachine_1 : zR κ chMachine (k + 1) = k + 36 := lg_r9 H (by decide) (by decide) (by decide +kernel)
  have e_atMachine_42 : zR κ atMachine (k + 42) = k + 36 := lg_r9 H (by decide) (by decide) (by decide +kernel)
  have e_atCode_42 : zR κ atCode (k + 42) = k + 7 := lg_r9 H (by decide) (by decide) (by decide +kernel)
  have e_weFirsts_43 : zR κ weFirsts (k + 43) = k + 44 := lg_r9 H (by decide) (by decide) (by decide +kernel)
  have n_44 : zN κ (k + 44) = 1 := lg_n9 H (by decide) (by decide +kernel)
  have e_weTargets_43 : zR κ weTargets (k + 43) = k + 45 := lg_r9 H (by decide) (by decide) (by decide +kernel)
  have n_45 : zN κ (k + 45) = 64 := lg_n9 H (by decide) (by decide +kernel)
  have e_weBackFirsts_43 : zR κ weBackFirsts (k + 43) = k + 46 := lg_r9 H (by decide) (by decide) (by decide +kernel)
  have n_46 : zN κ (k + 46) = 1 := lg_n9 H (by decide) (by decide +kernel)
  have e_weSources_43 : zR κ weSources (k + 43) = k + 47 := lg_r9 H (by decide) (by decide) (by decide +kernel)
  have n_47 : zN κ (k + 47) = 64 := lg_n9 H (by decide) (by decide +kernel)
  have e_weEdges_43 : zR κ weEdges (k + 43) = k + 48 := lg_r9 H (by decide) (by decide) (by decide +kernel)
  have n_48 : zN κ (k + 48) = 64 := lg_n9 H (by decide) (by decide +kernel)
  have e_weOpen_43 : zR κ weOpen (k + 43) = k + 49 := lg_r9 H (by decide) (by decide) (by decide +kernel)
  have n_49 : zN κ (k + 49) = 0 := lg_n9 H (by decide) (by decide +kernel)
  have e_weKnotFirsts_43 : zR κ weKnotFirsts (k + 43) = k + 50 := lg_r9 H (by decide) (by decide) (by decide +kernel)
  have n_50 : zN κ (k + 50) = 1 := lg_n9 H (by decide) (by decide +kernel)
  have e_weKnotOf_43 : zR κ weKnotOf (k + 43) = k + 51 := lg_r9 H (by decide) (by decide) (by decide +kernel)
  have n_51 : zN κ (k + 51) = 0 := lg_n9 H (by decide) (by decide +kernel)
  have e_weOrder_43 : zR κ weOrder (k + 43) = k + 52 := lg_r9 H (by decide) (by decide) (by decide +kernel)
  have n_52 : zN κ (k + 52) = 0 := lg_n9 H (by decide) (by decide +kernel)
  have e_weSeen_43 : zR κ weSeen (k + 43) = k + 53 := lg_r9 H (by decide) (by decide) (by decide +kernel)
  have n_53 : zN κ (k + 53) = 0 := lg_n9 H (by decide) (by decide +kernel)
  have e_weLow_43 : zR κ weLow (k + 43) = k + 54 := lg_r9 H (by decide) (by decide) (by decide +kernel)
  have n_54 : zN κ (k + 54) = 0 := lg_n9 H (by decide) (by decide +kernel)
  have e_weCursor_43 : zR κ weCursor (k + 43) = k + 55 := lg_r9 H (by decide) (by decide) (by decide +kernel)
  have n_55 : zN κ (k + 55) = 0 := lg_n9 H (by decide) (by decide +kernel)
  have e_wePath_43 : zR κ wePath (k + 43) = k + 56 := lg_r9 H (by decide) (by decide) (by decide +kernel)
  have n_56 : zN κ (k + 56) = 0 := lg_n9 H (by decide) (by decide +kernel)
  have e_weHeap_43 : zR κ weHeap (k + 43) = k + 57 := lg_r9 H (by decide) (by decide) (by decide +kernel)
  have n_57 : zN κ (k + 57) = 0 := lg_n9 H (by decide) (by decide +kernel)
  have e_atWeb_42 : zR κ atWeb (k + 42) = k + 43 := lg_r9 H (by decide) (by decide) (by decide +kernel)
  have e_hoStarts_58 : zR κ hoStarts (k + 58) = k + 59 := lg_r9 H (by decide) (by decide) (by decide +kernel)
  have n_59 : zN κ (k + 59) = 1 := lg_n9 H (by decide) (by decide +kernel)
  have e_hoTable_58 : zR κ hoTable (k + 58) = k + 60 := lg_r9 H (by decide) (by decide) (by decide +kernel)
  have n_60 : zN κ (k + 60) = 0 := lg_n9 H (by decide) (by decide +kernel)
  have e_hoPool_58 : zR κ hoPool (k + 58) = k + 61 := lg_r9 H (by decide) (by decide) (by decide +kernel)
  have n_61 : zN κ (k + 61) = 16 := lg_n9 H (by decide) (by decide +kernel)
  have e_atStates_42 : zR κ atStates (k + 42) = k + 58 := lg_r9 H (by decide) (by decide) (by decide +kernel)
  have e_hoStarts_62 : zR κ hoStarts (k + 62) = k + 63 := lg_r9 H (by decide) (by decide) (by decide +kernel)
  have n_63 : zN κ (k + 63) = 1 := lg_n9 H (by decide) (by decide +kernel)
  have e_hoTable_62 : zR κ hoTable (k + 62) = k + 64 := lg_r9 H (by decide) (by decide) (by decide +kernel)
  have n_64 : zN κ (k + 64) = 0 := lg_n9 H (by decide) (by decide +kernel)
  have e_hoPool_62 : zR κ hoPool (k + 62) = k + 65 := lg_r9 H (by decide) (by decide) (by decide +kernel)
  have n_65 : zN κ (k + 65) = 16 := lg_n9 H (by decide) (by decide +kernel)
  have e_atEndings_42 : zR κ atEndings (k + 42) = k + 62 := lg_r9 H (by decide) (by decide) (by decide +kernel)
  have e_atFirsts_42 : zR κ atFirsts (k + 42) = k + 66 := lg_r9 H (by decide) (by decide) (by decide +kernel)
  have n_66 : zN κ (k + 66) = 1 := lg_n9 H (by decide) (by decide +kernel)
  have e_atTotals_42 : zR κ atTotals (k + 42) = k + 67 := lg_r9 H (by decide) (by decide) (by decide +kernel)
  have n_67 : zN κ (k + 67) = 0 := lg_n9 H (by decide) (by decide +kernel)
  have e_atGains_42 : zR κ atGains (k + 42) = k + 68 := lg_r9 H (by decide) (by decide) (by decide +kernel)
  have n_68 : zN κ (k + 68) = 0 := lg_n9 H (by decide) (by decide +kernel)
  have e_atPlan_42 : zR κ atPlan (k + 42) = k + 69 := lg_r9 H (by decide) (by decide) (by decide +kernel)
  have n_69 : zN κ (k + 69) = 0 := lg_n9 H (by decide) (by decide +kernel)
  have e_atChooses_42 : zR κ atChooses (k + 42) = k + 70 := lg_r9 H (by decide) (by decide) (by decide +kernel)
  have n_70 : zN κ (k + 70) = 0 := lg_n9 H (by decide) (by decide +kernel)
  have e_atHopeless_42 : zR κ atHopeless (k + 42) = k + 71 := lg_r9 H (by decide) (by decide) (by decide +kernel)
  have n_71 : zN κ (k + 71) = 0 := lg_n9 H (by decide) (by decide +kernel)
  have e_atSorts_42 : zR κ atSorts (k + 42) = k + 72 := lg_r9 H (by decide) (by decide) (by decide +kernel)
  have n_72 : zN κ (k + 72) = 64 := lg_n9 H (by decide) (by decide +kernel)
  have e_atNumbers_42 : zR κ atNumbers (k + 42) = k + 73 := lg_r9 H (by decide) (by decide) (by decide +kernel)
  have n_73 : zN κ (k + 73) = 64 := lg_n9 H (by decide) (by decide +kernel)
  have e_atWeights_42 : zR κ atWeights (k + 42) = k + 74 := lg_r9 H (by decide) (by decide) (by decide +kernel)
  have n_74 : zN κ (k + 74) = 64 := lg_n9 H (by decide) (by decide +kernel)
  have e_chAtlas_1 : zR κ chAtlas (k + 1) = k + 42 := lg_r9 H (by decide) (by decide) (by decide +kernel)
  have e_caFactors_75 : zR κ caFactors (k + 75) = k + 76 := lg_r9 H (by decide) (by decide) (by decide +kernel)
  have n_76 : zN κ (k + 76) = 4 := lg_n9 H (by decide) (by decide +kernel)
  have e_caQuotient_75 : zR κ caQuotient (k + 75) = k + 77 := lg_r9 H (by decide) (by decide) (by decide +kernel)
  have e_caRest_75 : zR κ caRest (k + 75) = k + 79 := lg_r9 H (by decide) (by decide) (by decide +kernel)
  have e_caDivisor_75 : zR κ caDivisor (k + 75) = k + 81 := lg_r9 H (by decide) (by decide) (by decide +kernel)
  have e_caX_75 : zR κ caX (k + 75) = k + 83 := lg_r9 H (by decide) (by decide) (by decide +kernel)
  have e_caY_75 : zR κ caY (k + 75) = k + 85 := lg_r9 H (by decide) (by decide) (by decide +kernel)
  have e_caSpare_75 : zR κ caSpare (k + 75) = k + 87 := lg_r9 H (by decide) (by decide) (by decide +kernel)
  have e_soAtlas_89 : zR κ soAtlas (k + 89) = k + 42 := lg_r9 H (by decide) (by decide) (by decide +kernel)
  have e_soCalc_89 : zR κ soCalc (k + 89) = k + 75 := lg_r9 H (by decide) (by decide) (by decide +kernel)
  have e_soWeb_89 : zR κ soWeb (k + 89) = k + 43 := lg_r9 H (by decide) (by decide) (by decide +kernel)
  have e_soVisits_89 : zR κ soVisits (k + 89) = k + 90 := lg_r9 H (by decide) (by decide) (by decide +kernel)
  have n_90 : zN κ (k + 90) = 0 := lg_n9 H (by decide) (by decide +kernel)
  have e_soWorths_89 : zR κ soWorths (k + 89) = k + 91 := lg_r9 H (by decide) (by decide) (by decide +kernel)
  have n_91 : zN κ (k + 91) = 0 := lg_n9 H (by decide) (by decide +kernel)
  have e_soWhole_89 : zR κ soWhole (k + 89) = k + 92 := lg_r9 H (by decide) (by decide) (by decide +kernel)
  have e_soPart_89 : zR κ soPart (k + 89) = k + 94 := lg_r9 H (by decide) (by decide) (by decide +kernel)
  have e_soFactor_89 : zR κ soFactor (k + 89) = k + 99 := lg_r9 H (by decide) (by decide) (by decide +kernel)
  have e_soScaled_89 : zR κ soScaled (k + 89) = k + 101 := lg_r9 H (by decide) (by decide) (by decide +kernel)
  have e_soTerm_89 : zR κ soTerm (k + 89) = k + 103 := lg_r9 H (by decide) (by decide) (by decide +kernel)
  have e_soSum_89 : zR κ soSum (k + 89) = k + 105 := lg_r9 H (by decide) (by decide) (by decide +kernel)
  have e_soLess_89 : zR κ soLess (k + 89) = k + 107 := lg_r9 H (by decide) (by decide) (by decide +kernel)
  have e_soCells_89 : zR κ soCells (k + 89) = k + 109 := lg_r9 H (by decide) (by decide) (by decide +kernel)
  have n_109 : zN κ (k + 109) = 0 := lg_n9 H (by decide) (by decide +kernel)
  have e_soRows_89 : zR κ soRows (k + 89) = k + 110 := lg_r9 H (by decide) (by decide) (by decide +kernel)
  have n_110 : zN κ (k + 110) = 0 := lg_n9 H (by decide) (by decide +kernel)
  have e_soTaken_89 : zR κ soTaken (k + 89) = k + 111 := lg_r9 H (by decide) (by decide) (by decide +kernel)
  have n_111 : zN κ (k + 111) = 0 := lg_n9 H (by decide) (by decide +kernel)
  have e_chSolver_1 : zR κ chSolver (k + 1) = k + 89 := lg_r9 H (by decide) (by decide) (by decide +kernel)
  have e_odAtlas_112 : zR κ odAtlas (k + 112) = k + 42 := lg_r9 H (by decide) (by decide) (by decide +kernel)
  have e_odSolver_112 : zR κ odSolver (k + 112) = k + 89 := lg_r9 H (by decide) (by decide) (by decide +kernel)
  have e_odCalc_112 : zR κ odCalc (k + 112) = k + 75 := lg_r9 H (by decide) (by decide) (by decide +kernel)
  have e_odHeld_112 : zR κ odHeld (k + 112) = k + 113 := lg_r9 H (by decide) (by decide) (by decide +kernel)
  have e_hoStarts_115 : zR κ hoStarts (k + 115) = k + 116 := lg_r9 H (by decide) (by decide) (by decide +kernel)
  have n_116 : zN κ (k + 116) = 1 := lg_n9 H (by decide) (by decide +kernel)
  have e_hoTable_115 : zR κ hoTable (k + 115) = k + 117 := lg_r9 H (by decide) (by decide) (by decide +kernel)
  have n_117 : zN κ (k + 117) = 0 := lg_n9 H (by decide) (by decide +kernel)
  have e_hoPool_115 : zR κ hoPool (k + 115) = k + 118 := lg_r9 H (by decide) (by decide) (by decide +kernel)
  have n_118 : zN κ (k + 118) = 16 := lg_n9 H (by decide) (by decide +kernel)
  have e_odGroups_112 : zR κ odGroups (k + 112) = k + 115 := lg_r9 H (by decide) (by decide) (by decide +kernel)
  have e_odKey_112 : zR κ odKey (k + 112) = k + 119 := lg_r9 H (by decide) (by decide) (by decide +kernel)
  have n_119 : zN κ (k + 119) = 3 := lg_n9 H (by decide) (by decide +kernel)
  have e_odLefts_112 : zR κ odLefts (k + 112) = k + 120 := lg_r9 H (by decide) (by decide) (by decide +kernel)
  have n_120 : zN κ (k + 120) = 0 := lg_n9 H (by decide) (by decide +kernel)
  have e_odRights_112 : zR κ odRights (k + 112) = k + 121 := lg_r9 H (by decide) (by decide) (by decide +kernel)
  have n_121 : zN κ (k + 121) = 0 := lg_n9 H (by decide) (by decide +kernel)
  have e_odBases_112 : zR κ odBases (k + 112) = k + 122 := lg_r9 H (by decide) (by decide) (by decide +kernel)
  have n_122 : zN κ (k + 122) = 0 := lg_n9 H (by decide) (by decide +kernel)
  have e_odRanks_112 : zR κ odRanks (k + 112) = k + 123 := lg_r9 H (by decide) (by decide) (by decide +kernel)
  have n_123 : zN κ (k + 123) = 0 := lg_n9 H (by decide) (by decide +kernel)
  have e_odCellOf_112 : zR κ odCellOf (k + 112) = k + 124 := lg_r9 H (by decide) (by decide) (by decide +kernel)
  have n_124 : zN κ (k + 124) = 0 := lg_n9 H (by decide) (by decide +kernel)
  have e_odHeads_112 : zR κ odHeads (k + 112) = k + 125 := lg_r9 H (by decide) (by decide) (by decide +kernel)
  have n_125 : zN κ (k + 125) = 0 := lg_n9 H (by decide) (by decide +kernel)
  have e_odLinks_112 : zR κ odLinks (k + 112) = k + 126 := lg_r9 H (by decide) (by decide) (by decide +kernel)
  have n_126 : zN κ (k + 126) = 0 := lg_n9 H (by decide) (by decide +kernel)
  have e_odEdges_112 : zR κ odEdges (k + 112) = k + 127 := lg_r9 H (by decide) (by decide) (by decide +kernel)
  have n_127 : zN κ (k + 127) = 0 := lg_n9 H (by decide) (by decide +kernel)
  have e_chOdds_1 : zR κ chOdds (k + 1) = k + 112 := lg_r9 H (by decide) (by decide) (by decide +kernel)
  have e_chShown_1 : zR κ chShown (k + 1) = k + 128 := lg_r9 H (by decide) (by decide) (by decide +kernel)
  have e_chTold_1 : zR κ chTold (k + 1) = k + 133 := lg_r9 H (by decide) (by decide) (by decide +kernel)
  have n_133 : zN κ (k + 133) = 200 := lg_n9 H (by decide) (by decide +kernel)
  have e_chRecord_1 : zR κ chRecord (k + 1) = k + 134 := lg_r9 H (by decide) (by decide) (by decide +kernel)
  have n_134 : zN κ (k + 134) = 5 := lg_n9 H (by decide) (by decide +kernel)
  have e_chLastShared_1 : zR κ chLastShared (k + 1) = k + 135 := lg_r9 H (by decide) (by decide) (by decide +kernel)
  have n_135 : zN κ (k + 135) = 34 := lg_n9 H (by decide) (by decide +kernel)
  have e_chDrawnWeights_1 : zR κ chDrawnWeights (k + 1) = k + 136 := lg_r9 H (by decide) (by decide) (by decide +kernel)
  have n_136 : zN κ (k + 136) = 16 := lg_n9 H (by decide) (by decide +kernel)
  have e_chDrawnTotals_1 : zR κ chDrawnTotals (k + 1) = k + 137 := lg_r9 H (by decide) (by decide) (by decide +kernel)
  have n_137 : zN κ (k + 137) = 16 := lg_n9 H (by decide) (by decide +kernel)
  have i_taLength_2 : zI κ taLength (k + 2) = 0 := lg_i9 H (by decide) (by decide +kernel)
  have i_taTotal_2 : zI κ taTotal (k + 2) = 0 := lg_i9 H (by decide) (by decide +kernel)
  have i_coVars_7 : zI κ coVars (k + 7) = 0 := lg_i9 H (by decide) (by decide +kernel)
  have i_coArrays_7 : zI κ coArrays (k + 7) = 0 := lg_i9 H (by decide) (by decide +kernel)
  have i_coCells_7 : zI κ coCells (k + 7) = 0 := lg_i9 H (by decide) (by decide +kernel)
  have i_coFunctions_7 : zI κ coFunctions (k + 7) = 0 := lg_i9 H (by decide) (by decide +kernel)
  have i_coStatements_7 : zI κ coStatements (k + 7) = 0 := lg_i9 H (by decide) (by decide +kernel)
  have i_coLength_7 : zI κ coLength (k + 7) = 0 := lg_i9 H (by decide) (by decide +kernel)
  have i_coVars_17 : zI κ coVars (k + 17) = 0 := lg_i9 H (by decide) (by decide +kernel)
  have i_coArrays_17 : zI κ coArrays (k + 17) = 0 := lg_i9 H (by decide) (by decide +kernel)
  have i_coCells_17 : zI κ coCells (k + 17) = 0 := lg_i9 H (by decide) (by decide +kernel)
  have i_coFunctions_17 : zI κ coFunctions (k + 17) = 0 := lg_i9 H (by decide) (by decide +kernel)
  have i_coStatements_17 : zI κ coStatements (k + 17) = 0 := lg_i9 H (by decide) (by decide +kernel)
  have i_coLength_17 : zI κ coLength (k + 17) = 0 := lg_i9 H (by decide) (by decide +kernel)
  have i_paOwns_27 : zI κ paOwns (k + 27) = 0 := lg_i9 H (by decide) (by decide +kernel)
  have i_paBlocks_27 : zI κ paBlocks (k + 27) = 0 := lg_i9 H (by decide) (by decide +kernel)
  have i_paWaits_27 : zI κ paWaits (k + 27) = 0 := lg_i9 H (by decide) (by decide +kernel)
  have i_hoMost_58 : zI κ hoMost (k + 58) = 1000 := lg_i9 H (by decide) (by decide +kernel)
  have i_hoWidest_58 : zI κ hoWidest (k + 58) = 142 := lg_i9 H (by decide) (by decide +kernel)
  have i_hoSlots_58 : zI κ hoSlots (k + 58) = 2048 := lg_i9 H (by decide) (by decide +kernel)
  have i_hoTotal_58 : zI κ hoTotal (k + 58) = 0 := lg_i9 H (by decide) (by decide +kernel)
  have i_hoMost_62 : zI κ hoMost (k + 62) = 1000 := lg_i9 H (by decide) (by decide +kernel)
  have i_hoWidest_62 : zI κ hoWidest (k + 62) = 35 := lg_i9 H (by decide) (by decide +kernel)
  have i_hoSlots_62 : zI κ hoSlots (k + 62) = 2048 := lg_i9 H (by decide) (by decide +kernel)
  have i_hoTotal_62 : zI κ hoTotal (k + 62) = 0 := lg_i9 H (by decide) (by decide +kernel)
  have i_hoMost_115 : zI κ hoMost (k + 115) = 3000 := lg_i9 H (by decide) (by decide +kernel)
  have i_hoWidest_115 : zI κ hoWidest (k + 115) = 3 := lg_i9 H (by decide) (by decide +kernel)
  have i_hoSlots_115 : zI κ hoSlots (k + 115) = 8192 := lg_i9 H (by decide) (by decide +kernel)
  have i_hoTotal_115 : zI κ hoTotal (k + 115) = 0 := lg_i9 H (by decide) (by decide +kernel)
  have i_atExplored_42 : zI κ atExplored (k + 42) = 0 := lg_i9 H (by decide) (by decide +kernel)
  have i_soSolved_89 : zI κ soSolved (k + 89) = 0 := lg_i9 H (by decide) (by decide +kernel)
  have i_soPlanned_89 : zI κ soPlanned (k + 89) = 0 := lg_i9 H (by decide) (by decide +kernel)
  have i_chTolds_1 : zI κ chTolds (k + 1) = 0 := lg_i9 H (by decide) (by decide +kernel)
  have a_p1 : ∀ j, zA κ (k + 5) j = 0 := lg_a9 H (by decide) (by decide +kernel)
  have a_p2 : ∀ j, zA κ (k + 6) j = 0 := lg_a9 H (by decide) (by decide +kernel)
  have a_c1 : ∀ j, zA κ (k + 9) j = 0 := lg_a9 H (by decide) (by decide +kernel)
  have a_c2 : ∀ j, zA κ (k + 10) j = 0 := lg_a9 H (by decide) (by decide +kernel)
  have a_s1 : ∀ j, zA κ (k + 19) j = 0 := lg_a9 H (by decide) (by decide +kernel)
  have a_s2 : ∀ j, zA κ (k + 20) j = 0 := lg_a9 H (by decide) (by decide +kernel)
  have qn : ∀ b, 0 < b → ∀ j u, zQ κ (k + b) j = some u → False := fun b hb j u h => by
    rw [H.2.2.2.2.2.2.1 b j hb] at h
    cases h
  have nm := st_nm9 H
  have less := (lg_nu9 (b := 107) (r := 108) (m := 4) (c := 6500) H (by decide) (by decide +kernel) (by decide)).2.2
  have k8 : nT9 8 κ = 17 := (lg_c9 (by decide) H (by decide +kernel)).trans (by decide +kernel)
  have k11 : nT9 11 κ = 2 := (lg_c9 (by decide) H (by decide +kernel)).trans (by decide +kernel)
  have hA : chA9 κ (k + 1) := by
    unfold chA9 taI tokI coI paL paC
    simp only [e_chTape_1, e_chCode_1, e_chSpare_1, e_chParser_1, e_chMachine_1, e_chAtlas_1, e_chSolver_1, e_chOdds_1, e_chShown_1, e_chTold_1, e_chRecord_1, e_chLastShared_1, e_chDrawnWeights_1, e_chDrawnTotals_1, i_chTolds_1, n_133, n_134, n_135, n_136, n_137, e_taBytes_2, e_taKinds_2, e_taPlaces_2, e_taLengths_2, i_taLength_2, i_taTotal_2, n_3, n_4, n_5, n_6, e_coVarStarts_7, e_coArrayBases_7, e_coArraySizes_7, e_coFirstStatements_7, e_coNameCounts_7, e_coOwnCounts_7, e_coRows_7, e_coOps_7, e_coArgs_7, i_coVars_7, i_coArrays_7, i_coCells_7, i_coFunctions_7, i_coStatements_7, i_coLength_7, n_8, n_9, n_10, n_11, n_12, n_13, n_14, n_15, n_16, e_coVarStarts_17, e_coArrayBases_17, e_coArraySizes_17, e_coFirstStatements_17, e_coNameCounts_17, e_coOwnCounts_17, e_coRows_17, e_coOps_17, e_coArgs_17, i_coVars_17, i_coArrays_17, i_coCells_17, i_coFunctions_17, i_coStatements_17, i_coLength_17, n_18, n_19, n_20, n_21, n_22, n_23, n_24, n_25, n_26, e_paTape_27, e_paCode_27, e_paVarNames_27, e_paArrayNames_27, e_paFunctionNames_27, e_paOwnNames_27, e_paOwners_27, e_paLasts_27, e_paElses_27, e_paWaiting_27, i_paOwns_27, i_paBlocks_27, i_paWaits_27, n_28, n_29, n_30, n_31, n_32, n_33, n_34, n_35, a_p1, a_p2, a_c1, a_c2, a_s1, a_s2]
    refine ⟨⟨by decide, fun i hi => by decide⟩, ⟨⟨⟨by decide, by decide, by decide, by decide, by decide, by decide, by decide, by decide, fun i hi => by decide⟩, by decide, by decide, by decide, by decide, by decide, by decide, by decide, by decide, fun i hi => by decide⟩, by omega⟩, ⟨by decide, by decide⟩, trivial⟩
  have hB : chB9 κ (k + 1) := by
    unfold chB9 atI atU atL atH hoI maL weU weL
    simp only [e_chTape_1, e_chCode_1, e_chSpare_1, e_chParser_1, e_chMachine_1, e_chAtlas_1, e_chSolver_1, e_chOdds_1, e_chShown_1, e_chTold_1, e_chRecord_1, e_chLastShared_1, e_chDrawnWeights_1, e_chDrawnTotals_1, i_chTolds_1, n_133, n_134, n_135, n_136, n_137, e_maCode_36, e_maMemory_36, e_maStack_36, e_maWorked_36, e_maValues_36, e_maWeights_36, n_37, n_38, n_39, n_40, n_41, e_atMachine_42, e_atCode_42, e_atWeb_42, e_atStates_42, e_atEndings_42, e_atFirsts_42, e_atTotals_42, e_atGains_42, e_atPlan_42, e_atChooses_42, e_atHopeless_42, e_atSorts_42, e_atNumbers_42, e_atWeights_42, i_atExplored_42, n_66, n_67, n_68, n_69, n_70, n_71, n_72, n_73, n_74, e_weFirsts_43, e_weTargets_43, e_weBackFirsts_43, e_weSources_43, e_weEdges_43, e_weOpen_43, e_weKnotFirsts_43, e_weKnotOf_43, e_weOrder_43, e_weSeen_43, e_weLow_43, e_weCursor_43, e_wePath_43, e_weHeap_43, n_44, n_45, n_46, n_47, n_48, n_49, n_50, n_51, n_52, n_53, n_54, n_55, n_56, n_57, e_hoStarts_58, e_hoTable_58, e_hoPool_58, i_hoMost_58, i_hoWidest_58, i_hoSlots_58, i_hoTotal_58, n_59, n_60, n_61, e_hoStarts_62, e_hoTable_62, e_hoPool_62, i_hoMost_62, i_hoWidest_62, i_hoSlots_62, i_hoTotal_62, n_63, n_64, n_65]
    refine ⟨⟨⟨Or.inl (by decide), by decide, ⟨⟨by decide, by decide, by decide, Or.inl (by decide)⟩, by decide, by decide, by decide, Or.inl (by decide)⟩, by omega⟩, by decide, ⟨Or.inl (by decide), by decide⟩, nb_0, fun z => absurd rfl z⟩, trivial, fun z => absurd rfl z⟩
  have hs : soI (rho9 k) κ (k + 89) := by
    unfold soI caN caS
    simp only [e_soAtlas_89, e_soCalc_89, e_soWeb_89, e_soVisits_89, e_soWorths_89, e_soWhole_89, e_soPart_89, e_soFactor_89, e_soScaled_89, e_soTerm_89, e_soSum_89, e_soLess_89, e_soCells_89, e_soRows_89, e_soTaken_89, i_soSolved_89, i_soPlanned_89, n_90, n_91, n_109, n_110, n_111, e_caFactors_75, e_caQuotient_75, e_caRest_75, e_caDivisor_75, e_caX_75, e_caY_75, e_caSpare_75, n_76, rho_k9]
    refine ⟨⟨rfl, rfl, rfl, rfl, rfl, rfl, rfl⟩, ⟨⟨⟨by omega, by omega, by omega⟩, ⟨by omega, by omega, by omega⟩, ⟨by omega, by omega, by omega⟩, by omega⟩, trivial⟩, fun b hb => ?_, rfl⟩
    rcases hb with rfl | rfl | rfl | rfl | rfl <;> (rw [rho_k9]; rfl)
  have hr : soR9 (rho9 k) κ (k + 89) := by
    refine ⟨⟨nm, hs⟩, fun i u _ hu => ?_, ?_, ⟨fun j u _ hu => ?_, ?_⟩, ⟨fun j u _ hu => ?_, ?_⟩, ?_, ?_⟩
    · rw [e_soCells_89] at hu; exact (qn _ (by decide) _ _ hu).elim
    · rw [e_soCells_89, n_109]; exact Or.inl rfl
    · rw [e_soVisits_89] at hu; exact (qn _ (by decide) _ _ hu).elim
    · rw [e_soVisits_89, n_90]; decide
    · rw [e_soWorths_89] at hu; exact (qn _ (by decide) _ _ hu).elim
    · rw [e_soWorths_89, n_91]; decide
    · rw [e_soRows_89, n_110]; exact Or.inl rfl
    · rw [e_soLess_89, less]; exact pB9_p
  refine ⟨hA, hB, ⟨?_, ?_, ?_, ?_⟩, ⟨fun z => ?_, fun z => ?_⟩, ⟨?_, ?_, ⟨Or.inl ?_, ?_⟩, ⟨?_, ?_⟩, fun j u _ hu => ?_, ?_⟩, ⟨?_, ?_, ?_⟩, ?_, ?_, ?_⟩
  · rw [e_chSolver_1]; exact hr
  · rw [e_chSolver_1, e_soTaken_89, n_111]; exact Or.inl rfl
  · rw [e_chSolver_1, e_chAtlas_1, e_soAtlas_89, e_soWeb_89, e_atWeb_42]; exact ⟨rfl, rfl⟩
  · rw [e_chShown_1, rho_k9]; rfl
  · rw [e_chSolver_1, i_soSolved_89] at z; exact absurd rfl z
  · rw [e_chSolver_1, i_soPlanned_89] at z; exact absurd rfl z
  · rw [e_chOdds_1, e_odAtlas_112, e_odSolver_112, e_odCalc_112, e_chAtlas_1, e_chSolver_1, e_soCalc_89]; exact ⟨rfl, rfl, rfl⟩
  · rw [e_chOdds_1, e_odHeld_112, rho_k9]; rfl
  · unfold odU9
    simp only [e_odAtlas_112, e_odSolver_112, e_odCalc_112, e_odHeld_112, e_odGroups_112, e_odKey_112, e_odLefts_112, e_odRights_112, e_odBases_112, e_odRanks_112, e_odCellOf_112, e_odHeads_112, e_odLinks_112, e_odEdges_112, n_119, n_120, n_121, n_122, n_123, n_124, n_125, n_126, n_127, e_chOdds_1]
    decide
  · rw [e_chOdds_1, e_odLinks_112, n_126]; decide
  · unfold hoI
    simp only [e_hoStarts_115, e_hoTable_115, e_hoPool_115, i_hoMost_115, i_hoWidest_115, i_hoSlots_115, i_hoTotal_115, n_116, n_117, n_118, e_chOdds_1, e_odGroups_112]
    exact ⟨by decide, by decide, by decide, Or.inl (by decide)⟩
  · rw [e_chOdds_1, e_odKey_112, n_119]
  · rw [e_chOdds_1, e_odEdges_112] at hu; exact (qn _ (by decide) _ _ hu).elim
  · rw [e_chOdds_1, e_chAtlas_1, e_atStates_42, e_atEndings_42, e_odGroups_112]; exact ⟨by omega, by omega⟩
  · rw [e_chTold_1, n_133, i_chTolds_1]; decide
  · rw [e_chRecord_1, n_134, e_chLastShared_1, n_135]; decide
  · unfold dwI9
    rw [e_chDrawnTotals_1, n_137, e_chDrawnWeights_1, n_136]
    decide
  · rw [e_chTape_1, i_taLength_2]; decide
  · rw [k8]; omega
  · rw [k11]; omega
theorem st_c9 {k : Nat} {κ : zS} (H : lgH9 k κ 138 clF9) : zc κ = 137 ∧ zs κ ≤ 3000 ∧ zI κ chTolds (k + 1) = 0 ∧ zT κ (k + 1) = 15 ∧ zn κ = k + 138 := by
  have e := H.2.2.2.2.2.2.2.2.2
  refine ⟨by omega, ?_, lg_i9 H (by decide) (by decide +kernel), lg_y9 H (by decide) (by decide +kernel), H.1⟩
  rw [e.2]
  exact Nat.le_of_ble_eq_true (by decide +kernel)
