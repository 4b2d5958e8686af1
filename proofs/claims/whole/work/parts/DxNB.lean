section
set_option maxHeartbeats 1600000
/-! both sides read on where the class succeeds: tokens, names, an expression -/
def SR6 (T : T5) (X : X5) (Bk N : Nat) (Z : Int32) (a o : Nat) (R : List Qq6) (e : E5) (σ : rS) : Prop :=
  (tq5 e = T ∧ sx5 σ = X ∧ σ.1 2 = Z) ∧ (a < N ∧ e.1 1002 = Int32.ofNat a ∧ e.1 1003 = T.2.1 a ∧ σ.1 10 = Int32.ofNat (Bk + a)) ∧ okz6 σ ∧ (o ≤ 40 ∧ e.1 1004 = Int32.ofNat o ∧ σ.1 13 = Int32.ofNat o) ∧ cde6 e R ∧ R.length ≤ 2 * a
/-- what a token's step leaves -/
def sf6 (e e' : E5) (σ σ' : rS) : Prop := G6 e e' ∧ e'.2 = e.2 ∧ Nz6 σ σ' ∧ σ'.2 = σ.2 ∧ e'.1 515 = e.1 515
theorem sf_t6 {e e' e'' : E5} {σ σ' σ'' : rS} (h : sf6 e e' σ σ') (k : sf6 e' e'' σ' σ'') : sf6 e e'' σ σ'' := ⟨G_t6 h.1 k.1, k.2.1.trans h.2.1, Nz_t6 h.2.2.1 k.2.2.1, k.2.2.2.1.trans h.2.2.2.1, k.2.2.2.2.trans h.2.2.2.2⟩
theorem G_ge6 {e e' : E5} (h : G6 e e') : gE5 e' = gE5 e := by
  unfold gE5
  rw [h.1 509 (by decide) (by decide) (by decide) (by decide) (by decide), h.1 510 (by decide) (by decide) (by decide) (by decide) (by decide), h.1 512 (by decide) (by decide) (by decide) (by decide) (by decide), h.1 1010 (by decide) (by decide) (by decide) (by decide) (by decide), h.1 513 (by decide) (by decide) (by decide) (by decide) (by decide), h.1 1014 (by decide) (by decide) (by decide) (by decide) (by decide), h.1 1005 (by decide) (by decide) (by decide) (by decide) (by decide)]
  rw [h.2.1 1006 (by decide) (by decide) (by decide), h.2.1 1007 (by decide) (by decide) (by decide), h.2.1 1008 (by decide) (by decide) (by decide), h.2.1 504 (by decide) (by decide) (by decide), h.2.1 1009 (by decide) (by decide) (by decide), h.2.1 506 (by decide) (by decide) (by decide), h.2.1 1011 (by decide) (by decide) (by decide), h.2.1 1013 (by decide) (by decide) (by decide), h.2.2]
section
variable {T : T5} {X : X5} {Bk N : Nat} {Z : Int32} {a o : Nat} {R : List Qq6} {e e' : E5} {σ : rS}
theorem SR_L6 (H : TR5 T X Bk N Z) (hE : T.2.1 (N - 1) = 142) (S : SR6 T X Bk N Z a o R e σ) : LR5 T X Bk N Z (gE5 e) (gS5 σ) a 0 e σ := by
  obtain ⟨⟨s1, s2, s3⟩, ⟨s4, s5, s6, s7⟩, s8, ⟨s9, s10, s11⟩, s12, s13⟩ := S
  refine ⟨⟨s1, s2, s3⟩, ⟨rfl, rfl⟩, ⟨s4, s5, s7, s6, nb_6 H hE s4⟩, s8, ?_, ?_, ?_⟩
  · exact s11.trans s10.symm
  · have z : e.1 paOpen = Int32.ofNat o := s10
    rw [z, ofn_i (by omega)]; omega
  · have z : e.1 paOpen = Int32.ofNat o := s10
    rw [z, ofn_i (by omega)]; omega
theorem sk_6 (H : TR5 T X Bk N Z) (hE : T.2.1 (N - 1) = 142) (S : SR6 T X Bk N Z a o R e σ) (hk : T.2.1 a ≠ 142) (h : f5_Pa_take e = .inl (e', ())) : SR6 T X Bk N Z (a + 1) o R e' (g5_go σ) ∧ sf6 e e' σ (g5_go σ) := by
  obtain ⟨⟨s1, s2, s3⟩, ⟨s4, s5, s6, s7⟩, s8, ⟨s9, s10, s11⟩, s12, s13⟩ := S
  have ha := (tk_T6 H).2.2 a s4 hk (nb_6 H hE s4)
  have h1 := H.1
  obtain ⟨q1, q2, q3, q4, q5, q6, q7⟩ := tk_c6 s1 h1.1 h1.2.2.1 ha s5 h
  rw [go_6 H hE s2 ha s7 s8.1]
  exact ⟨⟨⟨(G_tq6 q7).trans s1, s2, s3⟩, ⟨ha, q1, q2, by rw [si1, if_pos rfl]⟩, ⟨s8.1, s8.2.1, s8.2.2⟩, ⟨s9, q3.trans s10, s11⟩, cd_e6 s12 q6 (by rw [q4]) (by rw [q4]), by omega⟩, q7, q4, Nz_F6 (F_si6 (by decide)), rfl, q6⟩
theorem sn_6 {c : Int32} (H : TR5 T X Bk N Z) (S : SR6 T X Bk N Z a o R e σ) (c0 : 0 < c.toInt) (c1 : c.toInt < 128) : g5_isAt c σ = if T.2.1 a = c then 1 else 0 := ata_6 H S.1.2.1 S.2.1.1 S.2.1.2.2.2 c0 c1
theorem sp_6 {c : Int32} (H : TR5 T X Bk N Z) (hE : T.2.1 (N - 1) = 142) (S : SR6 T X Bk N Z a o R e σ) (c0 : 0 < c.toInt) (c1 : c.toInt < 128) (h : f5_Pa_pass c e = .inl (e', ())) : T.2.1 a = c ∧ SR6 T X Bk N Z (a + 1) o R e' (g5_sign c σ) ∧ sf6 e e' σ (g5_sign c σ) := by
  unfold f5_Pa_pass at h
  by_cases k : e.1 paKind = c
  · rw [if_pos k, rb_u5] at h
    have k4 : T.2.1 a = c := S.2.1.2.2.1.symm.trans k
    have es : g5_sign c σ = g5_go σ := by
      unfold g5_sign
      dsimp only [pb5]
      rw [sn_6 H S c0 c1, if_pos k4, if_neg ne105]
    rw [es]
    refine ⟨k4, sk_6 H hE S (fun q => ?_) h⟩
    rw [k4] at q
    rw [q] at c1
    exact absurd c1 (by decide)
  · rw [if_neg k] at h; cases h
theorem sg_o6 {x : Int32} : G6 e (fun g => if g = 1004 then x else e.1 g, e.2) := ⟨fun g a b c d i => if_neg c, fun _ _ _ _ => rfl, rfl⟩
theorem sop_6 {c : Int32} (H : TR5 T X Bk N Z) (hE : T.2.1 (N - 1) = 142) (S : SR6 T X Bk N Z a o R e σ) (c0 : 0 < c.toInt) (c1 : c.toInt < 128) (h : f5_Pa_openSign c e = .inl (e', ())) : T.2.1 a = c ∧ o < 40 ∧ SR6 T X Bk N Z (a + 1) (o + 1) R e' (g5_open c σ) ∧ sf6 e e' σ (g5_open c σ) := by
  obtain ⟨⟨s1, s2, s3⟩, ⟨s4, s5, s6, s7⟩, s8, ⟨s9, s10, s11⟩, s12, s13⟩ := S
  unfold f5_Pa_openSign f5_Pa_openSign_17 f5_Pa_openSign_35 at h
  by_cases k : e.1 paKind = c
  · rw [if_pos k] at h
    have k4 : T.2.1 a = c := s6.symm.trans k
    by_cases b : e.1 paOpen < 40
    · rw [if_pos b] at h
      have h : rdB5 (f5_Pa_take (fun g => if g = 1004 then e.1 1004 + 1 else e.1 g, e.2)) (fun e2 _ => .inl (e2, ())) = .inl (e', ()) := h
      rw [rb_u5] at h
      have b' : o < 40 := by
        have z : e.1 1004 < 40 := b
        have l40 : (40 : Int32).toInt = 40 := rfl
        rw [lti, l40, s10, ofn_i (by omega)] at z
        omega
      have h1 := H.1
      have nk : T.2.1 a ≠ 142 := fun q => by
        rw [k4] at q
        rw [q] at c1
        exact absurd c1 (by decide)
      have ha := (tk_T6 H).2.2 a s4 nk (nb_6 H hE s4)
      obtain ⟨q1, q2, q3, q4, q5, q6, q7⟩ := tk_c6 (e := (fun g => if g = 1004 then e.1 1004 + 1 else e.1 g, e.2)) (T := T) (a := a) s1 h1.1 h1.2.2.1 ha s5 h
      have g1 : G6 e e' := G_t6 sg_o6 q7
      have q3 : e'.1 1004 = Int32.ofNat (o + 1) := by
        rw [q3]
        show (if 1004 = 1004 then e.1 1004 + 1 else e.1 1004) = _
        rw [if_pos rfl, s10, on_15 (by omega)]
      rw [op_6 H hE s2 ha s7 s8.1 k4 c0 c1 s11 b']
      refine ⟨k4, b', ⟨⟨(G_tq6 g1).trans s1, s2, s3⟩, ⟨ha, q1, q2, by rw [si1, if_pos rfl]⟩, ⟨s8.1, s8.2.1, s8.2.2⟩, ⟨by omega, q3, by rw [si1, if_neg (by decide), si1, if_pos rfl]⟩, cd_e6 s12 q6 (by rw [q4]) (by rw [q4]), by omega⟩, g1, q4, Nz_F6 (F_t6 (F_si6 (by decide)) (F_si6 (by decide))), rfl, q6⟩
    · rw [if_neg b] at h; cases h
  · rw [if_neg k] at h; cases h
theorem scl_6 {c : Int32} (H : TR5 T X Bk N Z) (hE : T.2.1 (N - 1) = 142) (S : SR6 T X Bk N Z a (o + 1) R e σ) (c0 : 0 < c.toInt) (c1 : c.toInt < 128) (h : f5_Pa_closeSign c e = .inl (e', ())) : T.2.1 a = c ∧ SR6 T X Bk N Z (a + 1) o R e' (g5_close c σ) ∧ sf6 e e' σ (g5_close c σ) := by
  obtain ⟨⟨s1, s2, s3⟩, ⟨s4, s5, s6, s7⟩, s8, ⟨s9, s10, s11⟩, s12, s13⟩ := S
  unfold f5_Pa_closeSign f5_Pa_closeSign_17 at h
  by_cases k : e.1 paKind = c
  · rw [if_pos k] at h
    have k4 : T.2.1 a = c := s6.symm.trans k
    have h : rdB5 (f5_Pa_take (fun g => if g = 1004 then e.1 1004 - 1 else e.1 g, e.2)) (fun e2 _ => .inl (e2, ())) = .inl (e', ()) := h
    rw [rb_u5] at h
    have h1 := H.1
    have nk : T.2.1 a ≠ 142 := fun q => by
      rw [k4] at q
      rw [q] at c1
      exact absurd c1 (by decide)
    have ha := (tk_T6 H).2.2 a s4 nk (nb_6 H hE s4)
    obtain ⟨q1, q2, q3, q4, q5, q6, q7⟩ := tk_c6 (e := (fun g => if g = 1004 then e.1 1004 - 1 else e.1 g, e.2)) (T := T) (a := a) s1 h1.1 h1.2.2.1 ha s5 h
    have g1 : G6 e e' := G_t6 sg_o6 q7
    have q3 : e'.1 1004 = Int32.ofNat o := by
      rw [q3]
      show (if 1004 = 1004 then e.1 1004 - 1 else e.1 1004) = _
      rw [if_pos rfl]
      exact ofU_5 s10 (by omega)
    rw [cs_6 H hE s2 ha s7 s8.1 k4 c0 c1 s11 (by omega)]
    refine ⟨k4, ⟨⟨(G_tq6 g1).trans s1, s2, s3⟩, ⟨ha, q1, q2, by rw [si1, if_pos rfl]⟩, ⟨s8.1, s8.2.1, s8.2.2⟩, ⟨by omega, q3, by rw [si1, if_neg (by decide), si1, if_pos rfl]⟩, cd_e6 s12 q6 (by rw [q4]) (by rw [q4]), by omega⟩, g1, q4, Nz_F6 (F_t6 (F_si6 (by decide)) (F_si6 (by decide))), rfl, q6⟩
  · rw [if_neg k] at h; cases h
/-- a new name -/
theorem fr_6 {V : V5} {W : W5} {l : Nat} {inF mn mo r : Int32} (H : TR5 T X Bk N Z) (L : LR5 T X Bk N Z V W a l e σ) (G : nG5 T Bk N V W) (O : (inF = 0 ∧ vow5 V = 0) ∨ (inF = 1 ∧ nO5 T Bk N V W)) (h : f5_Pa_newName mn mo e = .inl (e', r)) : T.2.1 a = 140 ∧ g5_fresh inF mn mo σ = (g5_go σ, Int32.ofNat (Bk + a)) ∧ f5_Pa_newName_143 e = .inl (e', r) ∧ mn < mo := by
  have h1 := H.1
  have ha := L.2.2.1.1
  have kd := kd_o5 (lr_kd5 H L)
  unfold f5_Pa_newName at h
  unfold g5_fresh
  dsimp only [pm5]
  by_cases hk : e.1 paKind = 140
  · have hd : g5_due 1 σ = (σ, σ.1 10) := by
      unfold g5_due
      rw [(lr_so5 H L).1, if_pos (kd.2.1.mpr hk)]
    have hx : f5_Pa_expect 140 e = .inl (e, ()) := by
      unfold f5_Pa_expect
      rw [if_pos hk]
    rw [hx, rdl_5] at h
    rw [hd]
    have ku : T.2.1 a = 140 := by rw [← L.2.2.1.2.2.2.1]; exact hk
    have hy := L.2.2.1.2.2.1
    have hat := L.2.2.1.2.1
    have hsx := L.1.2.1
    have htq := L.1.1
    obtain ⟨hV, hW⟩ := L.2.1
    obtain ⟨⟨v1, p1⟩, ⟨v2, p2⟩, ⟨v3, p3, _⟩, g1, g2, g3, g4, _⟩ := G
    have q1 := fun k hk => pN_s5 H hsx p1 (k := k) hk hy ha ku
    have q2 := fun k hk => pN_s5 H hsx p2 (k := k) hk hy ha ku
    have q3 := fun k hk => pN_s5 H hsx p3 (k := k) hk hy ha ku
    have c1 := fnd_n5 (fN_5 H p1 (l1 := vln5 V 1006) (by rw [g1]; exact p1.1) (by rw [g1]; decide) ha ku) (by have := p1.1; omega)
    have c2 := fnd_n5 (fN_5 H p2 (l1 := vln5 V 1007) (by rw [g2]; exact p2.1) (by rw [g2]; decide) ha ku) (by have := p2.1; omega)
    have c3 := fnd_n5 (fN_5 H p3 (l1 := vln5 V 1008) (by rw [g3]; exact p3.1) (by rw [g3]; decide) ha ku) (by have := p3.1; omega)
    subst hV
    subst hW
    obtain ⟨y1, b1, d1, t1⟩ := tl0_5 (σ := σ) (tok := σ.1 10) (P := fun k => dn5 T (e.2.1 1006 k).toInt.toNat a) (by have := p1.1; omega) p1.2.2.1 q1 fu5 0 0 (Or.inl rfl) (by omega) (by have := p1.1; unfold fu5; omega)
    obtain ⟨y2, b2, d2, t2⟩ := tl4_5 (σ := σ) (tok := σ.1 10) (P := fun k => dn5 T (e.2.1 1007 k).toInt.toNat a) (by have := p2.1; omega) p2.2.2.1 q2 fu5 0 y1 b1 (by omega) (by have := p2.1; unfold fu5; omega)
    obtain ⟨y3, b3, d3, t3⟩ := tl8_5 (σ := σ) (tok := σ.1 10) (P := fun k => dn5 T (e.2.1 1008 k).toInt.toNat a) (by have := p3.1; omega) p3.2.2.1 q3 fu5 0 y2 b2 (by omega) (by have := p3.1; unfold fu5; omega)
    have tt : g5_isTold (σ.1 10) σ = y3 := by
      unfold g5_isTold
      exact t1.trans (t2.trans t3)
    dsimp only [pb5] at h ⊢
    rw [htq, hat] at h
    rw [tt]
    -- the own names
    have own : ∃ y4 : Int32, (y4 = 0 ∨ y4 = 1) ∧ g5_fresh_18 fu5 inF mn mo (σ.1 10) y3 0 σ = g5_fresh_78 mn mo (σ.1 10) y4 σ ∧ (y4 = 0 ↔ (y3 = 0 ∧ f5_Ta_findName T (e.2.1 paOwnNames) (e.2.2 paOwnNames) (e.1 paOwns) (Int32.ofNat a) = -1)) := by
      rcases O with ⟨o1, o2⟩ | ⟨o1, f, w, o2, o3, o4, o5⟩
      · have o2' : e.1 paOwns = Int32.ofNat 0 := o2
        have pz : pN5 T Bk N 0 (e.1 paOwns) (e.2.1 paOwnNames) 0 (fun _ => 0) 0 := ⟨Nat.le_refl 0, o2', rfl, fun k hk => absurd hk (by omega)⟩
        have c4 := fnd_n5 (fN_5 H pz (l1 := e.2.2 paOwnNames) (by omega) (by show e.2.2 1009 ≤ 1000; have z : e.2.2 1009 = 8 := g4; rw [z]; decide) ha ku) (by omega)
        refine ⟨y3, b3, ?_, ⟨fun q => ⟨q, c4.mpr (fun k hk => absurd hk (by omega))⟩, fun q => q.1⟩⟩
        rw [show fu5 = 4294967295 + 1 from rfl, g5_fresh_18, if_pos o1]
      · have q4 := fun k hk => pN_s5 H hsx o5 (k := k) hk hy ha ku
        have c4 := fnd_n5 (fN_5 H o5 (l1 := e.2.2 paOwnNames) (by have z : e.2.2 1009 = 8 := g4; show w ≤ e.2.2 1009; rw [z]; exact o5.1) (by show e.2.2 1009 ≤ 1000; have z : e.2.2 1009 = 8 := g4; rw [z]; decide) ha ku) (by have := o5.1; omega)
        obtain ⟨y4, b4, d4, t4⟩ := fr8_5 (σ := σ) (inF := inF) (mn := mn) (mo := mo) (tok := σ.1 10) (P := fun k => dn5 T (e.2.1 1009 k).toInt.toNat a) (by rw [o1]; decide) (by have := o5.1; omega) o3 (by omega) o5.2.2.1 q4 fu5 0 y3 b3 (by omega) (by have := o5.1; unfold fu5; omega)
        exact ⟨y4, b4, t4, d4.trans ⟨fun q => ⟨q.1, c4.mpr (fun k hk => q.2 k (by omega) hk)⟩, fun q => ⟨q.1, fun j _ hj => c4.mp q.2 j hj⟩⟩⟩
    obtain ⟨y4, b4, t4, d4⟩ := own
    rw [t4]
    have hall : (f5_Ta_findName T (e.2.1 paVarNames) (e.2.2 paVarNames) (e.1 coVars) (Int32.ofNat a) = -1 ∧ f5_Ta_findName T (e.2.1 paArrayNames) (e.2.2 paArrayNames) (e.1 coArrays) (Int32.ofNat a) = -1 ∧ f5_Ta_findName T (e.2.1 paFunctionNames) (e.2.2 paFunctionNames) (e.1 coFunctions) (Int32.ofNat a) = -1) → y3 = 0 := by
      rintro ⟨z1, z2, z3⟩
      exact d3.mpr ⟨d2.mpr ⟨d1.mpr ⟨rfl, fun j _ hj => c1.mp z1 j hj⟩, fun j _ hj => c2.mp z2 j hj⟩, fun j _ hj => c3.mp z3 j hj⟩
    have bad : ∀ A : Prop, f5_Pa_newName_113 mn mo 1 e = .inl (e', r) → A := fun A q => by
      unfold f5_Pa_newName_113 at q
      rw [if_neg ne105] at q
      cases q
    by_cases f1 : f5_Ta_findName T (e.2.1 paVarNames) (e.2.2 paVarNames) (e.1 coVars) (Int32.ofNat a) = -1
    · rw [if_pos f1] at h
      by_cases f2 : f5_Ta_findName T (e.2.1 paArrayNames) (e.2.2 paArrayNames) (e.1 coArrays) (Int32.ofNat a) = -1
      · rw [if_pos f2] at h
        by_cases f3 : f5_Ta_findName T (e.2.1 paFunctionNames) (e.2.2 paFunctionNames) (e.1 coFunctions) (Int32.ofNat a) = -1
        · rw [if_pos f3] at h
          by_cases f4 : f5_Ta_findName T (e.2.1 paOwnNames) (e.2.2 paOwnNames) (e.1 paOwns) (Int32.ofNat a) = -1
          · rw [if_pos f4] at h
            have y0 : y4 = 0 := d4.mpr ⟨hall ⟨f1, f2, f3⟩, f4⟩
            unfold f5_Pa_newName_113 f5_Pa_newName_128 at h
            rw [if_pos rfl] at h
            by_cases c : mn < mo
            · rw [if_pos c] at h
              refine ⟨ku, ?_, h, c⟩
              unfold g5_fresh_78 g5_fresh_98
              dsimp only [pb5]
              rw [lr_ir5 L, if_neg ne105, if_pos y0, if_pos c, hy, if_neg ne105]
            · rw [if_neg c] at h; cases h
          · rw [if_neg f4] at h
            exact bad _ h
        · rw [if_neg f3] at h
          exact bad _ h
      · rw [if_neg f2] at h
        exact bad _ h
    · rw [if_neg f1] at h
      exact bad _ h
  · unfold f5_Pa_expect at h
    rw [if_neg hk] at h
    cases h
theorem snn_6 {inF mn mo r : Int32} (H : TR5 T X Bk N Z) (hE : T.2.1 (N - 1) = 142) (S : SR6 T X Bk N Z a o R e σ) (G : nG5 T Bk N (gE5 e) (gS5 σ)) (O : (inF = 0 ∧ vow5 (gE5 e) = 0) ∨ (inF = 1 ∧ nO5 T Bk N (gE5 e) (gS5 σ))) (h : f5_Pa_newName mn mo e = .inl (e', r)) : T.2.1 a = 140 ∧ r = Int32.ofNat a ∧ mn < mo ∧ (g5_fresh inF mn mo σ).2 = Int32.ofNat (Bk + a) ∧ SR6 T X Bk N Z (a + 1) o R e' (g5_fresh inF mn mo σ).1 ∧ sf6 e e' σ (g5_fresh inF mn mo σ).1 := by
  obtain ⟨z1, z2, z3, z4⟩ := fr_6 H (SR_L6 H hE S) G O h
  rw [z2]
  unfold f5_Pa_newName_143 at z3
  obtain ⟨e1, u, t1, t2⟩ := rb_s6 z3
  have y := Prod.mk.inj (Sum.inl.inj t2)
  obtain ⟨y1, y2⟩ := y
  subst y1
  obtain ⟨S2, f2⟩ := sk_6 H hE S (by rw [z1]; decide) t1
  refine ⟨z1, ?_, z4, rfl, S2, f2⟩
  rw [← y2]
  have z : e1.1 paAt = Int32.ofNat (a + 1) := S2.2.1.2.1
  rw [z]
  have := S.2.1.1
  have h1 := H.1
  exact ofU_5 rfl (by omega)
end

end
section
set_option maxHeartbeats 1600000
/-! an expression read on both sides: its code, and what the reference has noted of its names -/
/-- the code of an expression at a place -/
def cp6 (e : E5) : Nat → List Qq6 → Prop
  | p, [] => (p : Int) < (e.1 coLength).toInt ∧ e.2.1 coOps p = 0
  | p, c :: K => (p : Int) < (e.1 coLength).toInt ∧ e.2.1 coOps p = c.1 ∧ e.2.1 coArgs p = c.2 ∧ cp6 e (p + 1) K
theorem stk_b6 {row : Nat → Int32} : ∀ {A B : List Int32}, stk5 row (A ++ B) → stk5 row B
  | [], _, h => h
  | _ :: A, B, h => stk_b6 (A := A) h.2
theorem cp_k6 {e : E5} : ∀ (K R : List Qq6), stk5 (e.2.1 507) (0 :: (K.reverse ++ R).map Prod.fst) → stk5 (e.2.1 508) (0 :: (K.reverse ++ R).map Prod.snd) → ((R.length + K.length : Nat) : Int) < (e.1 515).toInt → cp6 e R.length K
  | [], R, h1, _, hl => by
    have z := h1.1
    rw [List.length_map] at z
    exact ⟨by have : R.length + ([] : List Qq6).length = R.length := rfl; rw [this] at hl; exact hl, z⟩
  | c :: K, R, h1, h2, hl => by
    have ez : (c :: K).reverse ++ R = K.reverse ++ (c :: R) := by rw [List.reverse_cons, List.append_assoc]; rfl
    rw [ez] at h1 h2
    rw [List.length_cons] at hl
    have y1 : stk5 (e.2.1 507) ((c :: R).map Prod.fst) := by
      have z := h1.2
      rw [List.map_append] at z
      exact stk_b6 z
    have y2 : stk5 (e.2.1 508) ((c :: R).map Prod.snd) := by
      have z := h2.2
      rw [List.map_append] at z
      exact stk_b6 z
    have z1 := y1.1
    have z2 := y2.1
    rw [List.length_map] at z1 z2
    exact ⟨show ((R.length : Nat) : Int) < (e.1 515).toInt by omega, z1, z2, cp_k6 K (c :: R) h1 h2 (by rw [List.length_cons]; omega)⟩
theorem cp_c6 {e : E5} {K R : List Qq6} (h : cde6 e ((0, 0) :: (K.reverse ++ R))) (hl : R.length + K.length ≤ 1000000) : cp6 e R.length K := by
  refine cp_k6 K R h.2.1 h.2.2 ?_
  have z := h.1
  rw [List.length_cons, List.length_append, List.length_reverse] at z
  rw [z, ofn_i (by omega)]
  omega
/-- code that was told stays -/
def cm6 (e e' : E5) : Prop := (e.1 515).toInt ≤ (e'.1 515).toInt ∧ ∀ i : Nat, (i : Int) < (e.1 515).toInt → e'.2.1 507 i = e.2.1 507 i ∧ e'.2.1 508 i = e.2.1 508 i
theorem cm_r6 {e : E5} : cm6 e e := ⟨Int.le_refl _, fun _ _ => ⟨rfl, rfl⟩⟩
theorem cm_t6 {e f g : E5} (h : cm6 e f) (k : cm6 f g) : cm6 e g := ⟨Int.le_trans h.1 k.1, fun i hi => ⟨((k.2 i (by have := h.1; omega)).1).trans (h.2 i hi).1, ((k.2 i (by have := h.1; omega)).2).trans (h.2 i hi).2⟩⟩
theorem cm_p6 {e e' : E5} (h : cm6 e e') : ∀ {K : List Qq6} {p : Nat}, cp6 e p K → cp6 e' p K
  | [], p, k => ⟨show (p : Int) < (e'.1 515).toInt by have h1 := h.1; have k1 : (p : Int) < (e.1 515).toInt := k.1; omega, by rw [(h.2 p k.1).1]; exact k.2⟩
  | c :: K, p, k => ⟨show (p : Int) < (e'.1 515).toInt by have h1 := h.1; have k1 : (p : Int) < (e.1 515).toInt := k.1; omega, by rw [(h.2 p k.1).1]; exact k.2.1, by rw [(h.2 p k.1).2]; exact k.2.2.1, cm_p6 h k.2.2.2⟩
theorem cm_e6 {e e' : E5} (h1 : e'.1 515 = e.1 515) (h2 : e'.2.1 507 = e.2.1 507) (h3 : e'.2.1 508 = e.2.1 508) : cm6 e e' := ⟨by rw [h1]; exact Int.le_refl _, fun i _ => by rw [h2, h3]; exact ⟨rfl, rfl⟩⟩
theorem stk_i6 {row row' : Nat → Int32} : ∀ {L : List Int32}, stk5 row L → stk5 row' L → ∀ i, i < L.length → row' i = row i
  | [], _, _, i, h => by rw [List.length_nil] at h; omega
  | x :: L, h, k, i, hi => by
    rw [List.length_cons] at hi
    by_cases q : i = L.length
    · rw [q, h.1, k.1]
    · exact stk_i6 h.2 k.2 i (by omega)
theorem cm_c6 {e e' : E5} {A R : List Qq6} (h : cde6 e R) (k : cde6 e' (A ++ R)) (hl : A.length + R.length ≤ 1000000) : cm6 e e' := by
  have z1 := h.1
  have z2 := k.1
  rw [List.length_append] at z2
  have l1 := ofn_i (n := R.length) (by omega)
  have l2 := ofn_i (n := A.length + R.length) (by omega)
  have y1 := k.2.1
  have y2 := k.2.2
  rw [List.map_append] at y1 y2
  refine ⟨by rw [z1, z2, l1, l2]; omega, fun i hi => ?_⟩
  rw [z1, l1] at hi
  exact ⟨stk_i6 h.2.1 (stk_b6 y1) i (by rw [List.length_map]; omega), stk_i6 h.2.2 (stk_b6 y2) i (by rw [List.length_map]; omega)⟩
/-- what the notes say of a name -/
def rsR6 (r : Nat → Int32) (Bk t : Nat) : Qq6 := if (100 : Int32) ≤ r (Bk + t) then (3, r (Bk + t) - 100) else (2, r (Bk + t))
def raR6 (r : Nat → Int32) (Bk t : Nat) : Int32 := r (Bk + t) - 200
def bn6 (T : T5) (Bk nv na : Nat) (r : Nat → Int32) (lo hi : Nat) : Prop := ∀ t, lo ≤ t → t < hi → T.2.1 t = 140 → (T.2.1 (t + 1) = 91 ∧ ∃ k, k < na ∧ r (Bk + t) = Int32.ofNat (200 + k)) ∨ (T.2.1 (t + 1) ≠ 91 ∧ T.2.1 (t + 1) ≠ 40 ∧ ((∃ k, k < nv ∧ r (Bk + t) = Int32.ofNat k) ∨ (∃ k, k < 8 ∧ r (Bk + t) = Int32.ofNat (100 + k))))
def xe6 (T : T5) (Bk nv na : Nat) (e : E5) (r : Nat → Int32) (p a p' a' : Nat) : Prop := (∃ mm K, Ch6 T 40 (rsR6 r Bk) (raR6 r Bk) mm false a [] K a' ∧ cp6 e p K ∧ p' = p + K.length + 1 ∧ p' ≤ 2 * a') ∧ bn6 T Bk nv na r a a' ∧ a < a'
/-- it stays when the code grows, and the notes of its tokens stay -/
theorem xe_m6 {T : T5} {Bk nv na nv' na' : Nat} {e e' : E5} {r r' : Nat → Int32} {p a p' a' : Nat} (h : xe6 T Bk nv na e r p a p' a') (hm : cm6 e e') (hv : nv ≤ nv') (ha : na ≤ na') (hr : ∀ t, a ≤ t → t < a' → T.2.1 t = 140 → T.2.1 (t + 1) ≠ 40 → r' (Bk + t) = r (Bk + t)) : xe6 T Bk nv' na' e' r' p a p' a' := by
  obtain ⟨⟨mm, K, h1, h2, h3, h4⟩, h5, h6⟩ := h
  have hr' : ∀ t, a ≤ t → t < a' → T.2.1 t = 140 → r' (Bk + t) = r (Bk + t) := fun t x y z => by
    rcases h5 t x y z with ⟨q, _⟩ | ⟨_, q, _⟩
    · exact hr t x y z (by rw [q]; decide)
    · exact hr t x y z q
  refine ⟨⟨mm, K, ch_c6 (Nat.le_refl _) h1 (fun t x y z => ⟨fun _ => ?_, fun _ => ?_⟩), cm_p6 hm h2, h3, h4⟩, fun t x y z => ?_, h6⟩
  · unfold raR6
    rw [hr' t x y z]
  · unfold rsR6
    rw [hr' t x y z]
  · rw [hr' t x y z]
    rcases h5 t x y z with ⟨q, k, k1, k2⟩ | ⟨q1, q2, q3⟩
    · exact Or.inl ⟨q, k, by omega, k2⟩
    · refine Or.inr ⟨q1, q2, ?_⟩
      rcases q3 with ⟨k, k1, k2⟩ | q
      · exact Or.inl ⟨k, by omega, k2⟩
      · exact Or.inr q
/-- a column stored: all else stays -/
theorem st_tq6 {s c x : Int32} {e : E5} : tq5 (stc5 s c x e) = tq5 e := by
  obtain ⟨a, b, d⟩ := stc_15 (s := s) (c := c) (x := x) (e := e)
  unfold tq5
  rw [a, b, d taBytes (by decide), d taKinds (by decide), d taPlaces (by decide), d taLengths (by decide)]
theorem st_rs6 {s c x : Int32} {e : E5} : rsE6 (stc5 s c x e) = rsE6 e ∧ raE6 (stc5 s c x e) = raE6 e ∧ owE6 (stc5 s c x e) = owE6 e := by
  obtain ⟨a, b, d⟩ := stc_15 (s := s) (c := c) (x := x) (e := e)
  refine ⟨?_, ?_, ?_⟩
  · funext t
    unfold rsE6
    rw [st_tq6, a, b, d paOwnNames (by decide), d paVarNames (by decide)]
  · funext t
    unfold raE6
    rw [st_tq6, a, b, d paArrayNames (by decide)]
  · funext t
    unfold owE6
    rw [st_tq6, a, b, d paOwnNames (by decide)]
section
variable {T : T5} {X : X5} {Bk N : Nat} {Z : Int32} {a o nv na : Nat} {R : List Qq6} {e e' : E5} {σ : rS}
/-- the reference's side of it, from what the class has read -/
theorem xq_6 {mm a' : Nat} {K : List Qq6} {e8 : E5} (H : TR5 T X Bk N Z) (hE : T.2.1 (N - 1) = 142) (hT : tq5 e = T) (hX : sx5 σ = X) (hZ : σ.1 2 = Z) (ok : okz6 σ) (ho : o ≤ 40) (hat : σ.1 10 = Int32.ofNat (Bk + a)) (h13 : σ.1 13 = Int32.ofNat o) (hnv : e.1 509 = Int32.ofNat nv ∧ nv ≤ 10) (hna : e.1 510 = Int32.ofNat na ∧ na ≤ 3) (G : nG5 T Bk N (gE5 e) (gS5 σ)) (O : nO5 T Bk N (gE5 e) (gS5 σ)) (z1 : Ch6 T (40 - o) (rsE6 e) (raE6 e) mm false a [] K a') (z2 : fn6 T N o a' ((0, 0) :: (K.reverse ++ R)) e8 e') : a < a' ∧ SR6 T X Bk N Z a' o ((0, 0) :: (K.reverse ++ R)) e' (g5_expression σ).1 ∧ Nz6 σ (g5_expression σ).1 ∧ xe6 T Bk nv na e' ((g5_expression σ).1.2.2.1 39) R.length a (R.length + K.length + 1) a' ∧ (∀ j, ¬ (Bk + a ≤ j ∧ j < Bk + a') → (g5_expression σ).1.2.2.1 39 j = σ.2.2.1 39 j) := by
  have h1 := H.1
  obtain ⟨⟨f1, f2, f3, f4⟩, f5, f6, f7, f8⟩ := z2
  obtain ⟨n1, n2, n3, n4⟩ := ns_6 H G O hT hX
  have hlt := (ch_le6 z1).2 rfl
  have o2 : okz6 (siU (siU σ 48 0) 49 0) := ⟨ok.1, ok.2.1, ok.2.2⟩
  have es : esz6 X (gS5 σ) Bk o a [] (siU (siU σ 48 0) 49 0) := ⟨o2, hX, rfl, hat, h13⟩
  have rr := (run_z6 (l := o) (by omega) H hE n1 n2 mm).1 a [] K a' z1 f2 (Nat.zero_le _) trivial trivial fu5 (siU (siU σ 48 0) 49 0) [] (by unfold fu5; omega) es ⟨rfl, trivial, trivial⟩ ⟨rfl, trivial⟩ rfl
  have eg : g5_expression σ = g5_expression_12 fu5 0 (siU (siU σ 48 0) 49 0) := rfl
  rw [eg]
  generalize (g5_expression_12 fu5 0 (siU (siU σ 48 0) 49 0)).1 = τ at rr
  obtain ⟨r1, r2, r3, r4, r5⟩ := rr
  have nz : Nz6 σ τ := Nz_t6 (Nz_F6 (F_t6 (F_si6 (by decide)) (F_si6 (by decide)))) r4
  have r5 : RR6 T Bk (rf6 T (rvE6 e) (rAE6 e)) (σ.2.2.1 39) (τ.2.2.1 39) a a' := r5
  rw [List.length_cons, List.length_append, List.length_reverse] at f7
  have val : ∀ t, a ≤ t → t < a' → T.2.1 t = 140 → τ.2.2.1 39 (Bk + t) = rf6 T (rvE6 e) (rAE6 e) t := fun t x y z => by
    rw [r5 (Bk + t), Nat.add_sub_cancel_left, if_pos ⟨by omega, by omega, z⟩]
  have hn5 : ∀ t, a ≤ t → t < a' → T.2.1 t = 140 → (T.2.1 (t + 1) = 91 ∧ ∃ k, k < na ∧ raE6 e t = Int32.ofNat k ∧ τ.2.2.1 39 (Bk + t) = Int32.ofNat (200 + k)) ∨ (T.2.1 (t + 1) ≠ 91 ∧ T.2.1 (t + 1) ≠ 40 ∧ ((∃ k, k < nv ∧ rsE6 e t = (2, Int32.ofNat k) ∧ τ.2.2.1 39 (Bk + t) = Int32.ofNat k) ∨ (∃ k, k < 8 ∧ rsE6 e t = (3, Int32.ofNat k) ∧ τ.2.2.1 39 (Bk + t) = Int32.ofNat (100 + k)))) := fun t x y z => by
    have v := val t x y z
    unfold rf6 at v
    have tN : t < N := by omega
    rcases ch_n6 z1 t x y z with ⟨q, w⟩ | ⟨q1, q2, q3, q4⟩
    · rw [if_pos q] at v
      rcases (na_6 (e := e) (σ := σ) H G hT rfl hX rfl tN z).1 with u | ⟨k, k0, k1, k2⟩
      · rw [u] at w
        exact absurd w (by decide)
      · refine Or.inl ⟨q, k, ?_, k2, ?_⟩
        · rw [hna.1, ofn_i (by omega)] at k0
          omega
        · rw [v]
          unfold rAE6
          rw [if_neg (by rw [k2]; exact no_m6 (by omega)), k2, show (200 : Int32) = Int32.ofNat 200 from rfl, ad_n6 (by omega)]
    · rw [if_neg q1] at v
      refine Or.inr ⟨q1, q2, ?_⟩
      obtain ⟨u1, u2, _⟩ := nv_6 (e := e) (σ := σ) H G O hT rfl hX rfl tN z
      have er : rsE6 e t = if owE6 e t < 0 then (2, vaE6 e t) else (3, owE6 e t) := rfl
      unfold rvE6 at v
      rcases u1 with u | ⟨k, k1, u⟩
      · rw [u, if_pos (by decide)] at er
        rw [if_pos u] at v
        rcases u2 with w | ⟨k, k0, k1, w⟩
        · rw [er, w] at q4
          exact absurd rfl q4
        · refine Or.inl ⟨k, ?_, by rw [er, w], by rw [v, w]⟩
          rw [hnv.1, ofn_i (by omega)] at k0
          omega
      · rw [u, if_neg (no_n6 (by omega))] at er
        rw [if_neg (by rw [u]; exact no_m6 (by omega)), u, show (100 : Int32) = Int32.ofNat 100 from rfl, ad_n6 (by omega)] at v
        exact Or.inr ⟨k, k1, er, v⟩
  refine ⟨hlt, ⟨⟨f1, (Nz_sx6 nz).trans hX, (nz.1 2 (by decide) (by decide) (by decide) (by decide) (by decide)).trans hZ⟩, ⟨f2, f3, f4, r1⟩, ok_Nz6 ok nz r2, ⟨ho, f6, r3⟩, f5, by rw [List.length_cons, List.length_append, List.length_reverse]; exact f7⟩, nz, ⟨⟨mm, K, ch_c6 (by omega) z1 (fun t x y z => ?_), cp_c6 f5 (by omega), rfl, by omega⟩, fun t x y z => ?_, hlt⟩, fun j hj => ?_⟩
  · rcases hn5 t x y z with ⟨q, k, k1, k2, k3⟩ | ⟨q1, q2, q3⟩
    · refine ⟨fun _ => ?_, fun w => absurd q w⟩
      unfold raR6
      rw [k3, k2, show (200 : Int32) = Int32.ofNat 200 from rfl, su_n6 (by omega)]
    · refine ⟨fun w => absurd w q1, fun _ => ?_⟩
      unfold rsR6
      have l100 : (100 : Int32).toInt = 100 := rfl
      rcases q3 with ⟨k, k1, k2, k3⟩ | ⟨k, k1, k2, k3⟩
      · rw [k3, k2, if_neg (by rw [lei, l100, ofn_i (by omega)]; omega)]
      · rw [k3, k2, if_pos (by rw [lei, l100, ofn_i (by omega)]; omega), show (100 : Int32) = Int32.ofNat 100 from rfl, su_n6 (by omega)]
  · rcases hn5 t x y z with ⟨q, k, k1, k2, k3⟩ | ⟨q1, q2, q3⟩
    · exact Or.inl ⟨q, k, k1, k3⟩
    · refine Or.inr ⟨q1, q2, ?_⟩
      rcases q3 with ⟨k, k1, k2, k3⟩ | ⟨k, k1, k2, k3⟩
      · exact Or.inl ⟨k, k1, k3⟩
      · exact Or.inr ⟨k, k1, k3⟩
  · rw [r5 j, if_neg (fun q => hj ⟨q.1, q.2.1⟩)]
theorem hbi_6 (H : TR5 T X Bk N Z) : ∀ t, t < N → f5_Pa_binary (T.2.1 t) ≠ -1 → bi16 (f5_Pa_binary (T.2.1 t)) := fun t ht q => (by_6 (H.2.2.1 t ht) q).2.1
/-- the record with which the loop begins -/
def e86 (s : Int32) (e : E5) : E5 := (fun g => if g = 1016 then 0 else (stc5 s 4 (cl5 s 4 e + 1) e).1 g, fun g j => if g = 1015 ∧ ¬ j < (0 : Int32).toNatClampNeg then 0 else (stc5 s 4 (cl5 s 4 e + 1) e).2.1 g j, (stc5 s 4 (cl5 s 4 e + 1) e).2.2)
theorem G_86 {s : Int32} {e : E5} : G6 (stc5 s 4 (cl5 s 4 e + 1) e) (e86 s e) := ⟨fun g a b c d i => if_neg d, fun g a b c => by funext j; exact if_neg (fun q => a q.1), rfl⟩
theorem ex_86 {s t : Int32} {e : E5} : f5_Pa_expression s t e = f5_Pa_expression_36 fu5 t 1 1 0 (e86 s e) := by
  unfold f5_Pa_expression
  dsimp only [pb5]
  rw [stc_5, rdl_5]
  rfl
theorem cs_86 {s : Int32} (H : TR5 T X Bk N Z) (S : SR6 T X Bk N Z a o R e σ) (w : ow6 T N e) : cs6 T N o (rsE6 e) (raE6 e) a [] R (e86 s e) := by
  obtain ⟨⟨s1, s2, s3⟩, ⟨s4, s5, s6, s7⟩, s8, ⟨s9, s10, s11⟩, s12, s13⟩ := S
  obtain ⟨a1, a2, a3⟩ := stc_15 (s := s) (c := 4) (x := cl5 s 4 e + 1) (e := e)
  obtain ⟨b1, b2, b3⟩ := st_rs6 (s := s) (c := 4) (x := cl5 s 4 e + 1) (e := e)
  have g := G_86 (s := s) (e := e)
  have k : ∀ f, f ≠ 1016 → (e86 s e).1 f = e.1 f := fun f q => by
    show (if f = 1016 then 0 else (stc5 s 4 (cl5 s 4 e + 1) e).1 f) = _
    rw [if_neg q, a1]
  have kr : ∀ f, f ≠ 1015 → f ≠ 506 → (e86 s e).2.1 f = e.2.1 f := fun f q q2 => by
    funext j
    show (if f = 1015 ∧ ¬ j < (0 : Int32).toNatClampNeg then 0 else (stc5 s 4 (cl5 s 4 e + 1) e).2.1 f j) = _
    rw [if_neg (fun z => q z.1), a3 f q2]
  refine ⟨⟨((G_tq6 g).trans st_tq6).trans s1, s4, (k 1002 (by decide)).trans s5, (k 1003 (by decide)).trans s6⟩, ⟨rfl, trivial⟩, cd_e6 s12 (k 515 (by decide)) (kr 507 (by decide) (by decide)) (kr 508 (by decide) (by decide)), ⟨(k 1004 (by decide)).trans s10, s9⟩, (rs_G6 g).trans b1, (ra_G6 g).trans b2, fun t x y => ?_⟩
  rw [ow_e6 g, b3]
  exact w t x y
/-- an expression -/
theorem xp_6 {s : Int32} (H : TR5 T X Bk N Z) (hE : T.2.1 (N - 1) = 142) (S : SR6 T X Bk N Z a o R e σ) (hnv : e.1 509 = Int32.ofNat nv ∧ nv ≤ 10) (hna : e.1 510 = Int32.ofNat na ∧ na ≤ 3) (G : nG5 T Bk N (gE5 e) (gS5 σ)) (O : nO5 T Bk N (gE5 e) (gS5 σ)) (h : f5_Pa_expression s (-1) e = .inl (e', ())) : ∃ (a' : Nat) (K : List Qq6), a < a' ∧ SR6 T X Bk N Z a' o ((0, 0) :: (K.reverse ++ R)) e' (g5_expression σ).1 ∧ Nz6 σ (g5_expression σ).1 ∧ xe6 T Bk nv na e' ((g5_expression σ).1.2.2.1 39) R.length a (R.length + K.length + 1) a' ∧ (∀ j, ¬ (Bk + a ≤ j ∧ j < Bk + a') → (g5_expression σ).1.2.2.1 39 j = σ.2.2.1 39 j) ∧ G6 (stc5 s 4 (cl5 s 4 e + 1) e) e' := by
  obtain ⟨n1, n2, n3, n4⟩ := ns_6 H G O S.1.1 S.1.2.1
  rw [ex_86] at h
  have s13 := S.2.2.2.2.2
  obtain ⟨mm, K, a', z1, z2⟩ := (cl_m6 (tk_T6 H) (hbi_6 H) n4 fu5).1 a 0 [] R _ e' (cs_86 (s := s) H S n3) (by rw [List.length_nil]; omega) (by omega) trivial h
  obtain ⟨y1, y2, y3, y4, y5⟩ := xq_6 H hE S.1.1 S.1.2.1 S.1.2.2 S.2.2.1 S.2.2.2.1.1 S.2.1.2.2.2 S.2.2.2.1.2.2 hnv hna G O z1 z2
  exact ⟨a', K, y1, y2, y3, y4, y5, G_t6 G_86 z2.2.2.2.2⟩
/-- an expression whose first name the class has taken -/
theorem xpt_6 {s : Int32} {t : Nat} {e0 : E5} (H : TR5 T X Bk N Z) (hE : T.2.1 (N - 1) = 142) (S0 : SR6 T X Bk N Z t o R e0 σ) (k : T.2.1 t = 140) (S : SR6 T X Bk N Z (t + 1) o R e (g5_go σ)) (hnv : e.1 509 = Int32.ofNat nv ∧ nv ≤ 10) (hna : e.1 510 = Int32.ofNat na ∧ na ≤ 3) (G : nG5 T Bk N (gE5 e) (gS5 σ)) (O : nO5 T Bk N (gE5 e) (gS5 σ)) (h : f5_Pa_expression s (Int32.ofNat t) e = .inl (e', ())) : ∃ (a' : Nat) (K : List Qq6), t < a' ∧ SR6 T X Bk N Z a' o ((0, 0) :: (K.reverse ++ R)) e' (g5_expression σ).1 ∧ Nz6 σ (g5_expression σ).1 ∧ xe6 T Bk nv na e' ((g5_expression σ).1.2.2.1 39) R.length t (R.length + K.length + 1) a' ∧ (∀ j, ¬ (Bk + t ≤ j ∧ j < Bk + a') → (g5_expression σ).1.2.2.1 39 j = σ.2.2.1 39 j) ∧ G6 (stc5 s 4 (cl5 s 4 e + 1) e) e' := by
  obtain ⟨n1, n2, n3, n4⟩ := ns_6 H G O S.1.1 S0.1.2.1
  rw [ex_86] at h
  have s13 := S0.2.2.2.2.2
  obtain ⟨mm, K, a', z1, z2⟩ := (cl_m6 (tk_T6 H) (hbi_6 H) n4 fu5).2.1 t 0 [] R _ e' (cs_86 (s := s) H S n3) k (by rw [List.length_nil]; omega) (by omega) trivial h
  obtain ⟨y1, y2, y3, y4, y5⟩ := xq_6 H hE S.1.1 S0.1.2.1 S0.1.2.2 S0.2.2.1 S0.2.2.2.1.1 S0.2.1.2.2.2 S0.2.2.2.1.2.2 hnv hna G O z1 z2
  exact ⟨a', K, y1, y2, y3, y4, y5, G_t6 G_86 z2.2.2.2.2⟩
end

end
section
set_option maxHeartbeats 1600000
/-! what a statement is on both sides; what changes while one is read -/
/-- expressions one behind the other, a token between; pairs of a draw -/
def xs6 (T : T5) (Bk nv na : Nat) (e : E5) (r : Nat → Int32) : Nat → Nat → Nat → Nat → Nat → Prop
  | 0, _, _, _, _ => False
  | n + 1, p, a, p', a' => ∃ p1 a1, xe6 T Bk nv na e r p a p1 a1 ∧ ((n = 0 ∧ p' = p1 ∧ a' = a1) ∨ (0 < n ∧ a1 < a' ∧ xs6 T Bk nv na e r n p1 (a1 + 1) p' a'))
def sp6 (T : T5) (Bk nv na : Nat) (e : E5) (r : Nat → Int32) : Nat → Nat → Nat → Nat → Nat → Prop
  | 0, _, _, _, _ => False
  | n + 1, p, a, p', a' => ∃ p1 a1 p2 a2, xe6 T Bk nv na e r p a p1 a1 ∧ T.2.1 a1 = 58 ∧ xe6 T Bk nv na e r p1 (a1 + 1) p2 a2 ∧ ((n = 0 ∧ T.2.1 a2 = 125 ∧ p' = p2 ∧ a' = a2) ∨ (0 < n ∧ a2 < a' ∧ T.2.1 a2 = 44 ∧ sp6 T Bk nv na e r n p2 (a2 + 1) p' a'))
def pk6 (Bk nv : Nat) (r : Nat → Int32) (so ix : Int32) (t : Nat) : Prop := (so = 2 ∧ ∃ k, k < 8 ∧ ix = Int32.ofNat k ∧ r (Bk + t) = Int32.ofNat (100 + k)) ∨ (so = 1 ∧ ∃ k, k < nv ∧ ix = Int32.ofNat k ∧ r (Bk + t) = Int32.ofNat k)
def pq6 (T : T5) (Bk nv na : Nat) (e : E5) (r : Nat → Int32) (so ix : Int32) (b pc p1 z : Nat) : Prop := (pk6 Bk nv r so ix b ∧ p1 = pc ∧ T.2.1 (b + 1) ≠ 40 ∧ T.2.1 (b + 1) ≠ 91) ∨ (so = 3 ∧ (∃ k, k < na ∧ ix = Int32.ofNat k ∧ r (Bk + b) = Int32.ofNat (200 + k)) ∧ T.2.1 (b + 1) = 91 ∧ ∃ a1, xe6 T Bk nv na e r pc (b + 2) p1 a1 ∧ a1 ≤ z)
def stm6 (T : T5) (Bk nv na : Nat) (e : E5) (r30 r31 r32 r : Nat → Int32) (j z : Nat) : Prop := ∃ b x pc : Nat, r31 j = Int32.ofNat (Bk + b) ∧ r32 j = Int32.ofNat (Bk + x) ∧ e.2.1 506 (11 * j + 3) = Int32.ofNat pc ∧ b ≤ x ∧ x < z ∧ pc ≤ 2 * b ∧
  ((r30 j = 1 ∧ e.2.1 506 (11 * j) = 0 ∧ e.2.1 506 (11 * j + 4) = 1 ∧ T.2.1 (b + 1) = 140 ∧ T.2.1 (b + 2) = 61 ∧ b + 1 < z ∧ e.2.1 506 (11 * j + 1) = 2 ∧ pk6 Bk nv r (e.2.1 506 (11 * j + 1)) (e.2.1 506 (11 * j + 2)) (b + 1) ∧ ∃ p' a', xe6 T Bk nv na e r pc x p' a' ∧ a' ≤ z) ∨
   (T.2.1 b = 140 ∧ ∃ p1, pq6 T Bk nv na e r (e.2.1 506 (11 * j + 1)) (e.2.1 506 (11 * j + 2)) b pc p1 z ∧
     ((r30 j = 2 ∧ e.2.1 506 (11 * j) = 0 ∧ e.2.1 506 (11 * j + 4) = 1 ∧ ∃ p' a', xe6 T Bk nv na e r p1 x p' a' ∧ a' ≤ z) ∨
      (r30 j = 3 ∧ e.2.1 506 (11 * j) = 1 ∧ e.2.1 506 (11 * j + 4) = 1 ∧ T.2.1 x = 160 ∧ ∃ p' a', xe6 T Bk nv na e r p1 (x + 2) p' a' ∧ a' ≤ z) ∨
      (r30 j = 3 ∧ e.2.1 506 (11 * j) = 2 ∧ e.2.1 506 (11 * j + 4) = 2 ∧ T.2.1 x = 161 ∧ ∃ p2 a2 p' a', xe6 T Bk nv na e r p1 (x + 2) p2 a2 ∧ xe6 T Bk nv na e r p2 (a2 + 1) p' a' ∧ a' ≤ z) ∨
      (r30 j = 3 ∧ e.2.1 506 (11 * j) = 3 ∧ T.2.1 x = 123 ∧ ∃ n p' a', n ≤ 8 ∧ e.2.1 506 (11 * j + 4) = Int32.ofNat (2 * n) ∧ sp6 T Bk nv na e r n p1 (x + 1) p' a' ∧ a' ≤ z) ∨
      (r30 j = 4 ∧ e.2.1 506 (11 * j) = 4 ∧ e.2.1 506 (11 * j + 4) = 1 ∧ ∃ p' a', xe6 T Bk nv na e r p1 (x + 2) p' a' ∧ a' ≤ z))) ∨
   (r30 j = 5 ∧ e.2.1 506 (11 * j) = 5 ∧ T.2.1 x = 140 ∧ T.2.1 (x + 1) = 40 ∧ ((b = x ∧ e.2.1 506 (11 * j + 1) = 0) ∨ (b < x ∧ T.2.1 b = 140 ∧ T.2.1 (b + 1) = 61 ∧ pk6 Bk nv r (e.2.1 506 (11 * j + 1)) (e.2.1 506 (11 * j + 2)) b)) ∧ ∃ n : Nat, n ≤ 65537 ∧ e.2.1 506 (11 * j + 4) = Int32.ofNat n ∧ (n = 0 ∨ ∃ p' a', xs6 T Bk nv na e r n pc (x + 2) p' a' ∧ a' ≤ z)) ∨
   ((r30 j = 6 ∨ r30 j = 7 ∨ r30 j = 8 ∨ r30 j = 9 ∨ r30 j = 10) ∧ e.2.1 506 (11 * j) = r30 j ∧ e.2.1 506 (11 * j + 4) = 1 ∧ e.2.1 506 (11 * j + 1) = 0 ∧ ∃ p' a', xe6 T Bk nv na e r pc x p' a' ∧ a' ≤ z))
section
variable {T : T5} {Bk nv na nv' na' : Nat} {e e' : E5} {r r' : Nat → Int32}
/-- all stays when the code grows and the notes of its tokens stay -/
theorem xs_m6 (hm : cm6 e e') (hv : nv ≤ nv') (hn : na ≤ na') : ∀ {n p a p' a' : Nat}, xs6 T Bk nv na e r n p a p' a' → (∀ t, a ≤ t → t < a' → T.2.1 t = 140 → T.2.1 (t + 1) ≠ 40 → r' (Bk + t) = r (Bk + t)) → xs6 T Bk nv' na' e' r' n p a p' a'
  | 0, _, _, _, _, h, _ => h
  | n + 1, p, a, p', a', h, hr => by
    obtain ⟨p1, a1, h1, h2⟩ := h
    have l1 := h1.2.2
    rcases h2 with ⟨q1, q2, q3⟩ | ⟨q1, q2, q3⟩
    · exact ⟨p1, a1, xe_m6 h1 hm hv hn (fun t x y => hr t x (by omega)), Or.inl ⟨q1, q2, q3⟩⟩
    · exact ⟨p1, a1, xe_m6 h1 hm hv hn (fun t x y => hr t x (by omega)), Or.inr ⟨q1, q2, xs_m6 hm hv hn q3 (fun t x y => hr t (by omega) y)⟩⟩
theorem sp_m6 (hm : cm6 e e') (hv : nv ≤ nv') (hn : na ≤ na') : ∀ {n p a p' a' : Nat}, sp6 T Bk nv na e r n p a p' a' → (∀ t, a ≤ t → t < a' → T.2.1 t = 140 → T.2.1 (t + 1) ≠ 40 → r' (Bk + t) = r (Bk + t)) → sp6 T Bk nv' na' e' r' n p a p' a'
  | 0, _, _, _, _, h, _ => h
  | n + 1, p, a, p', a', h, hr => by
    obtain ⟨p1, a1, p2, a2, h1, k, h2, h3⟩ := h
    have l1 := h1.2.2
    have l2 := h2.2.2
    rcases h3 with ⟨q1, q2, q3, q4⟩ | ⟨q1, q2, q3, q4⟩
    · exact ⟨p1, a1, p2, a2, xe_m6 h1 hm hv hn (fun t x y => hr t x (by omega)), k, xe_m6 h2 hm hv hn (fun t x y => hr t (by omega) (by omega)), Or.inl ⟨q1, q2, q3, q4⟩⟩
    · exact ⟨p1, a1, p2, a2, xe_m6 h1 hm hv hn (fun t x y => hr t x (by omega)), k, xe_m6 h2 hm hv hn (fun t x y => hr t (by omega) (by omega)), Or.inr ⟨q1, q2, q3, sp_m6 hm hv hn q4 (fun t x y => hr t (by omega) y)⟩⟩
theorem pk_m6 {so ix : Int32} {t : Nat} (h : pk6 Bk nv r so ix t) (hv : nv ≤ nv') (hr : r' (Bk + t) = r (Bk + t)) : pk6 Bk nv' r' so ix t := by
  rcases h with ⟨q, k, k1, k2, k3⟩ | ⟨q, k, k1, k2, k3⟩
  · exact Or.inl ⟨q, k, k1, k2, by rw [hr]; exact k3⟩
  · exact Or.inr ⟨q, k, by omega, k2, by rw [hr]; exact k3⟩
theorem pq_m6 {so ix : Int32} {b pc p1 z : Nat} (h : pq6 T Bk nv na e r so ix b pc p1 z) (kb : T.2.1 b = 140) (hz : b < z) (hm : cm6 e e') (hv : nv ≤ nv') (hn : na ≤ na') (hr : ∀ t, b ≤ t → t < z → T.2.1 t = 140 → T.2.1 (t + 1) ≠ 40 → r' (Bk + t) = r (Bk + t)) : pq6 T Bk nv' na' e' r' so ix b pc p1 z := by
  rcases h with ⟨h1, h2, h3, h4⟩ | ⟨h1, ⟨k, k1, k2, k3⟩, h2, a1, h3, h4⟩
  · exact Or.inl ⟨pk_m6 h1 hv (hr b (Nat.le_refl _) hz kb h3), h2, h3, h4⟩
  · exact Or.inr ⟨h1, ⟨k, by omega, k2, by rw [hr b (Nat.le_refl _) hz kb (by rw [h2]; decide)]; exact k3⟩, h2, a1, xe_m6 h3 hm hv hn (fun t x y => hr t (by omega) (by omega)), h4⟩
theorem st_m6 {r30 r31 r32 s30 s31 s32 : Nat → Int32} {j z : Nat} (h : stm6 T Bk nv na e r30 r31 r32 r j z) (hm : cm6 e e') (hv : nv ≤ nv') (hn : na ≤ na') (hw : ∀ c, c ≤ 4 → e'.2.1 506 (11 * j + c) = e.2.1 506 (11 * j + c)) (h30 : s30 j = r30 j) (h31 : s31 j = r31 j) (h32 : s32 j = r32 j) (hr0 : ∀ t, t < z → T.2.1 t = 140 → T.2.1 (t + 1) ≠ 40 → r' (Bk + t) = r (Bk + t)) : stm6 T Bk nv' na' e' s30 s31 s32 r' j z := by
  obtain ⟨b, x, pc, h1, h2, h3, h4, h5, h6, h7⟩ := h
  have hr : ∀ t, b ≤ t → t < z → T.2.1 t = 140 → T.2.1 (t + 1) ≠ 40 → r' (Bk + t) = r (Bk + t) := fun t _ y => hr0 t y
  have w0 : e'.2.1 506 (11 * j) = e.2.1 506 (11 * j) := hw 0 (by omega)
  refine ⟨b, x, pc, by rw [h31]; exact h1, by rw [h32]; exact h2, by rw [hw 3 (by omega)]; exact h3, h4, h5, h6, ?_⟩
  rw [h30, w0, hw 4 (by omega), hw 1 (by omega), hw 2 (by omega)]
  rcases h7 with ⟨q1, q2, q3, q4, q5, q6, q7, q8, p', a', q9, q10⟩ | ⟨kb, p1, hp, h8⟩ | ⟨q1, q2, q3, q4, q5, n, q6, q7, q8⟩ | ⟨q1, q2, q3, q4, p', a', q5, q6⟩
  · exact Or.inl ⟨q1, q2, q3, q4, q5, q6, q7, pk_m6 q8 hv (hr (b + 1) (by omega) q6 q4 (by rw [q5]; decide)), p', a', xe_m6 q9 hm hv hn (fun t x y => hr t (by omega) (by omega)), q10⟩
  · refine Or.inr (Or.inl ⟨kb, p1, pq_m6 hp kb (by omega) hm hv hn hr, ?_⟩)
    rcases h8 with ⟨q1, q2, q3, p', a', q4, q5⟩ | ⟨q1, q2, q3, q4, p', a', q5, q6⟩ | ⟨q1, q2, q3, q4, p2, a2, p', a', q5, q6, q7⟩ | ⟨q1, q2, q3, n, p', a', q4, q5, q6, q7⟩ | ⟨q1, q2, q3, p', a', q4, q5⟩
    · exact Or.inl ⟨q1, q2, q3, p', a', xe_m6 q4 hm hv hn (fun t x y => hr t (by omega) (by omega)), q5⟩
    · exact Or.inr (Or.inl ⟨q1, q2, q3, q4, p', a', xe_m6 q5 hm hv hn (fun t x y => hr t (by omega) (by omega)), q6⟩)
    · have l6 := q6.2.2
      have l5 := q5.2.2
      exact Or.inr (Or.inr (Or.inl ⟨q1, q2, q3, q4, p2, a2, p', a', xe_m6 q5 hm hv hn (fun t x y => hr t (by omega) (by omega)), xe_m6 q6 hm hv hn (fun t x y => hr t (by omega) (by omega)), q7⟩))
    · exact Or.inr (Or.inr (Or.inr (Or.inl ⟨q1, q2, q3, n, p', a', q4, q5, sp_m6 hm hv hn q6 (fun t x y => hr t (by omega) (by omega)), q7⟩)))
    · exact Or.inr (Or.inr (Or.inr (Or.inr ⟨q1, q2, q3, p', a', xe_m6 q4 hm hv hn (fun t x y => hr t (by omega) (by omega)), q5⟩)))
  · refine Or.inr (Or.inr (Or.inl ⟨q1, q2, q3, q4, ?_, n, q6, q7, ?_⟩))
    · rcases q5 with q5 | ⟨y1, y2, y3, y4⟩
      · exact Or.inl q5
      · exact Or.inr ⟨y1, y2, y3, pk_m6 y4 hv (hr b (Nat.le_refl _) (by omega) y2 (by rw [y3]; decide))⟩
    · rcases q8 with q8 | ⟨p', a', y1, y2⟩
      · exact Or.inl q8
      · exact Or.inr ⟨p', a', xs_m6 hm hv hn y1 (fun t x y => hr t (by omega) (by omega)), y2⟩
  · exact Or.inr (Or.inr (Or.inr ⟨q1, q2, q3, q4, p', a', xe_m6 q5 hm hv hn (fun t x y => hr t (by omega) (by omega)), q6⟩))
end
/-- what changes while statement s is read -/
def GSt6 (s : Nat) (e e' : E5) : Prop := (∀ g, g ≠ 1002 → g ≠ 1003 → g ≠ 1004 → g ≠ 1016 → g ≠ 515 → e'.1 g = e.1 g) ∧ (∀ g, g ≠ 1015 → g ≠ 507 → g ≠ 508 → g ≠ 506 → e'.2.1 g = e.2.1 g) ∧ e'.2.2 = e.2.2 ∧ ∀ i, ¬ (11 * s ≤ i ∧ i < 11 * s + 11) → e'.2.1 506 i = e.2.1 506 i
def NS6 (s : Nat) (σ σ' : rS) : Prop := (∀ f, f ≠ 10 → f ≠ 13 → f ≠ 47 → f ≠ 48 → f ≠ 49 → σ'.1 f = σ.1 f) ∧ σ'.2.1 = σ.2.1 ∧ (∀ f, f ≠ 50 → f ≠ 51 → f ≠ 52 → f ≠ 39 → f ≠ 30 → f ≠ 32 → σ'.2.2.1 f = σ.2.2.1 f) ∧ σ'.2.2.2 = σ.2.2.2 ∧ ∀ j, j ≠ s → σ'.2.2.1 30 j = σ.2.2.1 30 j ∧ σ'.2.2.1 32 j = σ.2.2.1 32 j
theorem GS_r6 {s : Nat} {e : E5} : GSt6 s e e := ⟨fun _ _ _ _ _ _ => rfl, fun _ _ _ _ _ => rfl, rfl, fun _ _ => rfl⟩
theorem NS_r6 {s : Nat} {σ : rS} : NS6 s σ σ := ⟨fun _ _ _ _ _ _ => rfl, rfl, fun _ _ _ _ _ _ _ => rfl, rfl, fun _ _ => ⟨rfl, rfl⟩⟩
theorem GS_t6 {s : Nat} {e f g : E5} (h : GSt6 s e f) (k : GSt6 s f g) : GSt6 s e g := ⟨fun j a b c d i => (k.1 j a b c d i).trans (h.1 j a b c d i), fun j a b c d => (k.2.1 j a b c d).trans (h.2.1 j a b c d), k.2.2.1.trans h.2.2.1, fun i hi => (k.2.2.2 i hi).trans (h.2.2.2 i hi)⟩
theorem NS_t6 {s : Nat} {σ τ υ : rS} (h : NS6 s σ τ) (k : NS6 s τ υ) : NS6 s σ υ := ⟨fun f a b c d e => (k.1 f a b c d e).trans (h.1 f a b c d e), k.2.1.trans h.2.1, fun f a b c d e g => (k.2.2.1 f a b c d e g).trans (h.2.2.1 f a b c d e g), k.2.2.2.1.trans h.2.2.2.1, fun j hj => ⟨((k.2.2.2.2 j hj).1).trans (h.2.2.2.2 j hj).1, ((k.2.2.2.2 j hj).2).trans (h.2.2.2.2 j hj).2⟩⟩
theorem GS_G6 {s : Nat} {e e' : E5} (h : G6 e e') : GSt6 s e e' := ⟨h.1, fun g a b c _ => h.2.1 g a b c, h.2.2, fun i _ => by rw [h.2.1 506 (by decide) (by decide) (by decide)]⟩
theorem NS_N6 {s : Nat} {σ σ' : rS} (h : Nz6 σ σ') : NS6 s σ σ' := ⟨h.1, h.2.1, fun g a b c d _ _ => h.2.2.1 g a b c d, h.2.2.2, fun j _ => ⟨by rw [h.2.2.1 30 (by decide) (by decide) (by decide) (by decide)], by rw [h.2.2.1 32 (by decide) (by decide) (by decide) (by decide)]⟩⟩
theorem NS_u6 {s f : Nat} {σ : rS} {x : Int32} (hf : f = 30 ∨ f = 32) : NS6 s σ (riU σ f s x) := by
  refine ⟨fun _ _ _ _ _ _ => rfl, rfl, fun g a b c d e h => ?_, rfl, fun j hj => ⟨?_, ?_⟩⟩
  · refine ri3 (fun q => ?_)
    rcases hf with y | y
    · exact e (q.trans y)
    · exact h (q.trans y)
  · rcases hf with y | y
    · subst y; rw [ri4, if_neg hj]
    · subst y; rw [ri3 (by decide)]
  · rcases hf with y | y
    · subst y; rw [ri3 (by decide)]
    · subst y; rw [ri4, if_neg hj]
/-- columns -/
theorem ix_6 {s c : Nat} (hs : s ≤ 1000) (hc : c ≤ 10) : (Int32.ofNat s * 11 + Int32.ofNat c).toNatClampNeg = 11 * s + c := by
  have ls := ofn_i (n := s) (by omega)
  have lc := ofn_i (n := c) (by omega)
  have l11 : (11 : Int32).toInt = 11 := rfl
  have e1 : Int32.ofNat s * 11 = Int32.ofNat (11 * s) := by
    apply Int32.toInt_inj.mp
    rw [mul_i (by rw [ls, l11]; omega) (by rw [ls, l11]; omega), ls, l11, ofn_i (by omega)]
    omega
  rw [e1, ad_n6 (by omega), cl_5 (by omega)]
section
variable {s n c : Nat} {x : Int32} {e : E5}
theorem st_s6 (h : e.1 513 = Int32.ofNat n) (hs : s < n) (hn : n ≤ 150) (hc : c ≤ 10) : stc5 (Int32.ofNat s) (Int32.ofNat c) x e = (e.1, fun g j => if g = 506 ∧ j = 11 * s + c then x else e.2.1 g j, e.2.2) := by
  unfold stc5
  have z : e.1 coStatements = Int32.ofNat n := h
  rw [if_neg (no_n6 (by omega)), z, if_neg (by rw [lei, ofn_i (by omega), ofn_i (by omega)]; omega), ix_6 (by omega) hc]
theorem cl_s6 (h : e.1 513 = Int32.ofNat n) (hs : s < n) (hn : n ≤ 150) (hc : c ≤ 10) : cl5 (Int32.ofNat s) (Int32.ofNat c) e = e.2.1 506 (11 * s + c) := by
  unfold cl5
  have z : e.1 coStatements = Int32.ofNat n := h
  rw [if_neg (no_n6 (by omega)), z, if_neg (by rw [lei, ofn_i (by omega), ofn_i (by omega)]; omega), ix_6 (by omega) hc]
theorem GS_c6 (h : e.1 513 = Int32.ofNat n) (hs : s < n) (hn : n ≤ 150) (hc : c ≤ 10) : GSt6 s e (stc5 (Int32.ofNat s) (Int32.ofNat c) x e) ∧ (∀ i, (stc5 (Int32.ofNat s) (Int32.ofNat c) x e).2.1 506 i = if i = 11 * s + c then x else e.2.1 506 i) ∧ cm6 e (stc5 (Int32.ofNat s) (Int32.ofNat c) x e) := by
  rw [st_s6 h hs hn hc]
  refine ⟨⟨fun _ _ _ _ _ _ => rfl, fun g a b d i => ?_, rfl, fun i hi => ?_⟩, fun i => ?_, ⟨Int.le_refl _, fun i _ => ⟨?_, ?_⟩⟩⟩
  · funext j
    exact if_neg (fun q => i q.1)
  · exact if_neg (fun q => hi ⟨by omega, by omega⟩)
  · show (if 506 = 506 ∧ i = 11 * s + c then x else e.2.1 506 i) = _
    by_cases q : i = 11 * s + c
    · rw [if_pos ⟨rfl, q⟩, if_pos q]
    · rw [if_neg (fun z => q z.2), if_neg q]
  · show (if 507 = 506 ∧ i = 11 * s + c then x else e.2.1 507 i) = _
    exact if_neg (fun q => absurd q.1 (by decide))
  · show (if 508 = 506 ∧ i = 11 * s + c then x else e.2.1 508 i) = _
    exact if_neg (fun q => absurd q.1 (by decide))
end
theorem cm_G6 {e e' : E5} {A R : List Qq6} (h : cde6 e R) (k : cde6 e' (A ++ R)) (hl : A.length + R.length ≤ 1000000) : cm6 e e' := cm_c6 h k hl
theorem cm_d6 {e e' : E5} {R : List Qq6} (h : cde6 e R) (k : cde6 e' R) (hl : R.length ≤ 1000000) : cm6 e e' := cm_c6 (A := []) h k (by rw [List.length_nil]; omega)
section
variable {T : T5} {X : X5} {Bk N : Nat} {Z : Int32} {a o s : Nat} {R : List Qq6} {e e' : E5} {σ σ' : rS}
theorem SR_c6 {n c : Int32} {x : Int32} (S : SR6 T X Bk N Z a o R e σ) : SR6 T X Bk N Z a o R (stc5 n c x e) σ := by
  obtain ⟨⟨s1, s2, s3⟩, ⟨s4, s5, s6, s7⟩, s8, ⟨s9, s10, s11⟩, s12, s13⟩ := S
  obtain ⟨a1, a2, a3⟩ := stc_15 (s := n) (c := c) (x := x) (e := e)
  exact ⟨⟨st_tq6.trans s1, s2, s3⟩, ⟨s4, by rw [a1]; exact s5, by rw [a1]; exact s6, s7⟩, s8, ⟨s9, by rw [a1]; exact s10, s11⟩, cd_e6 s12 (by rw [a1]) (a3 507 (by decide)) (a3 508 (by decide)), s13⟩
theorem SR_u6 {f i : Nat} {x : Int32} (hf : f ≠ 5 ∧ f ≠ 6 ∧ f ≠ 7 ∧ f ≠ 9) (S : SR6 T X Bk N Z a o R e σ) : SR6 T X Bk N Z a o R e (riU σ f i x) := by
  obtain ⟨⟨s1, s2, s3⟩, ⟨s4, s5, s6, s7⟩, s8, ⟨s9, s10, s11⟩, s12, s13⟩ := S
  refine ⟨⟨s1, ?_, s3⟩, ⟨s4, s5, s6, s7⟩, s8, ⟨s9, s10, s11⟩, s12, s13⟩
  rw [← s2]
  have k : ∀ g, g ≠ f → (riU σ f i x).2.2.1 g = σ.2.2.1 g := fun g a => ri3 a
  unfold sx5
  rw [k 5 (Ne.symm hf.1), k 6 (Ne.symm hf.2.1), k 7 (Ne.symm hf.2.2.1), k 9 (Ne.symm hf.2.2.2)]
  rfl
theorem nG_S6 (h : GSt6 s e e') (k : NS6 s σ σ') (G : nG5 T Bk N (gE5 e) (gS5 σ)) : nG5 T Bk N (gE5 e') (gS5 σ') := by
  have G' : (∃ v, pN5 T Bk N 10 (e.1 509) (e.2.1 1006) (σ.1 15) (σ.2.2.1 20) v) ∧ (∃ v, pN5 T Bk N 3 (e.1 510) (e.2.1 1007) (σ.1 16) (σ.2.2.1 22) v) ∧ (∃ v, pN5 T Bk N 10 (e.1 512) (e.2.1 1008) (σ.1 18) (σ.2.2.1 25) v ∧ ∀ k, k < v → e.2.1 504 k = σ.2.2.1 26 k) ∧ (e.2.2 1006 = 10 ∧ e.2.2 1007 = 3 ∧ e.2.2 1008 = 10 ∧ e.2.2 1009 = 8 ∧ e.2.2 1011 = 41) := G
  show (∃ v, pN5 T Bk N 10 (e'.1 509) (e'.2.1 1006) (σ'.1 15) (σ'.2.2.1 20) v) ∧ (∃ v, pN5 T Bk N 3 (e'.1 510) (e'.2.1 1007) (σ'.1 16) (σ'.2.2.1 22) v) ∧ (∃ v, pN5 T Bk N 10 (e'.1 512) (e'.2.1 1008) (σ'.1 18) (σ'.2.2.1 25) v ∧ ∀ k, k < v → e'.2.1 504 k = σ'.2.2.1 26 k) ∧ (e'.2.2 1006 = 10 ∧ e'.2.2 1007 = 3 ∧ e'.2.2 1008 = 10 ∧ e'.2.2 1009 = 8 ∧ e'.2.2 1011 = 41)
  rw [h.1 509 (by decide) (by decide) (by decide) (by decide) (by decide), h.1 510 (by decide) (by decide) (by decide) (by decide) (by decide), h.1 512 (by decide) (by decide) (by decide) (by decide) (by decide), h.2.1 1006 (by decide) (by decide) (by decide) (by decide), h.2.1 1007 (by decide) (by decide) (by decide) (by decide), h.2.1 1008 (by decide) (by decide) (by decide) (by decide), h.2.1 504 (by decide) (by decide) (by decide) (by decide), h.2.2.1, k.1 15 (by decide) (by decide) (by decide) (by decide) (by decide), k.1 16 (by decide) (by decide) (by decide) (by decide) (by decide), k.1 18 (by decide) (by decide) (by decide) (by decide) (by decide), k.2.2.1 20 (by decide) (by decide) (by decide) (by decide) (by decide) (by decide), k.2.2.1 22 (by decide) (by decide) (by decide) (by decide) (by decide) (by decide), k.2.2.1 25 (by decide) (by decide) (by decide) (by decide) (by decide) (by decide), k.2.2.1 26 (by decide) (by decide) (by decide) (by decide) (by decide) (by decide)]
  exact G'
theorem nO_S6 (h : GSt6 s e e') (k : NS6 s σ σ') (O : nO5 T Bk N (gE5 e) (gS5 σ)) : nO5 T Bk N (gE5 e') (gS5 σ') := by
  have O' : ∃ f w, f < 10 ∧ σ.1 41 = Int32.ofNat f ∧ e.1 512 = Int32.ofNat f ∧ pN5 T Bk N 8 (e.1 1010) (e.2.1 1009) (σ.2.2.1 27 f) (fun k => σ.2.2.1 28 (8 * f + k)) w := O
  show ∃ f w, f < 10 ∧ σ'.1 41 = Int32.ofNat f ∧ e'.1 512 = Int32.ofNat f ∧ pN5 T Bk N 8 (e'.1 1010) (e'.2.1 1009) (σ'.2.2.1 27 f) (fun k => σ'.2.2.1 28 (8 * f + k)) w
  rw [h.1 512 (by decide) (by decide) (by decide) (by decide) (by decide), h.1 1010 (by decide) (by decide) (by decide) (by decide) (by decide), h.2.1 1009 (by decide) (by decide) (by decide) (by decide), k.1 41 (by decide) (by decide) (by decide) (by decide) (by decide), k.2.2.1 27 (by decide) (by decide) (by decide) (by decide) (by decide) (by decide), k.2.2.1 28 (by decide) (by decide) (by decide) (by decide) (by decide) (by decide)]
  exact O'
end
/-- statement s is being read: how many there are, what names are told -/
def JS6 (T : T5) (Bk N nv na s : Nat) (e : E5) (σ : rS) : Prop := e.1 513 = Int32.ofNat (s + 1) ∧ s < 150 ∧ (e.1 509 = Int32.ofNat nv ∧ nv ≤ 10) ∧ (e.1 510 = Int32.ofNat na ∧ na ≤ 3) ∧ nG5 T Bk N (gE5 e) (gS5 σ) ∧ nO5 T Bk N (gE5 e) (gS5 σ)
theorem JS_m6 {T : T5} {Bk N nv na s : Nat} {e e' : E5} {σ σ' : rS} (J : JS6 T Bk N nv na s e σ) (h : GSt6 s e e') (k : NS6 s σ σ') : JS6 T Bk N nv na s e' σ' := by
  obtain ⟨j1, j2, j3, j4, j5, j6⟩ := J
  exact ⟨by rw [h.1 513 (by decide) (by decide) (by decide) (by decide) (by decide)]; exact j1, j2, by rw [h.1 509 (by decide) (by decide) (by decide) (by decide) (by decide)]; exact j3, by rw [h.1 510 (by decide) (by decide) (by decide) (by decide) (by decide)]; exact j4, nG_S6 h k j5, nO_S6 h k j6⟩
/-- behind a piece of statement s -/
def fs6 (Bk s a a' : Nat) (e e' : E5) (σ σ' : rS) : Prop := GSt6 s e e' ∧ NS6 s σ σ' ∧ cm6 e e' ∧ ∀ j, ¬ (Bk + a ≤ j ∧ j < Bk + a') → σ'.2.2.1 39 j = σ.2.2.1 39 j
theorem fs_t6 {Bk s a b c : Nat} {e f g : E5} {σ τ υ : rS} (hab : a ≤ b) (hbc : b ≤ c) (h : fs6 Bk s a b e f σ τ) (k : fs6 Bk s b c f g τ υ) : fs6 Bk s a c e g σ υ := ⟨GS_t6 h.1 k.1, NS_t6 h.2.1 k.2.1, cm_t6 h.2.2.1 k.2.2.1, fun j hj => (k.2.2.2 j (fun q => hj ⟨by omega, q.2⟩)).trans (h.2.2.2 j (fun q => hj ⟨q.1, by omega⟩))⟩
theorem fs_w6 {Bk s a b c d : Nat} {e f : E5} {σ τ : rS} (h : fs6 Bk s b c e f σ τ) (hab : a ≤ b) (hcd : c ≤ d) : fs6 Bk s a d e f σ τ := ⟨h.1, h.2.1, h.2.2.1, fun j hj => h.2.2.2 j (fun q => hj ⟨by omega, by omega⟩)⟩
theorem fs_s6 {Bk s a a' : Nat} {e e' : E5} {σ σ' : rS} (h : sf6 e e' σ σ') : fs6 Bk s a a' e e' σ σ' := ⟨GS_G6 h.1, NS_N6 h.2.2.1, cm_e6 h.2.2.2.2 (by rw [h.2.1]) (by rw [h.2.1]), fun j _ => by rw [h.2.2.2.1]⟩
/-- behind a whole statement (a local's name may be told) -/
def fw6 (Bk s a a' : Nat) (e e' : E5) (σ σ' : rS) : Prop := ((∀ g, g ≠ 1002 → g ≠ 1003 → g ≠ 1004 → g ≠ 1016 → g ≠ 515 → g ≠ 1010 → e'.1 g = e.1 g) ∧ (∀ g, g ≠ 1015 → g ≠ 507 → g ≠ 508 → g ≠ 506 → g ≠ 1009 → e'.2.1 g = e.2.1 g) ∧ e'.2.2 = e.2.2 ∧ ∀ i, ¬ (11 * s ≤ i ∧ i < 11 * s + 11) → e'.2.1 506 i = e.2.1 506 i) ∧ ((∀ f, f ≠ 10 → f ≠ 13 → f ≠ 47 → f ≠ 48 → f ≠ 49 → σ'.1 f = σ.1 f) ∧ (∀ f, f ≠ 50 → f ≠ 51 → f ≠ 52 → f ≠ 39 → f ≠ 30 → f ≠ 32 → f ≠ 27 → f ≠ 28 → σ'.2.2.1 f = σ.2.2.1 f) ∧ ∀ j, j ≠ s → σ'.2.2.1 30 j = σ.2.2.1 30 j ∧ σ'.2.2.1 32 j = σ.2.2.1 32 j) ∧ cm6 e e' ∧ (∀ j, ¬ (Bk + a ≤ j ∧ j < Bk + a') → σ'.2.2.1 39 j = σ.2.2.1 39 j) ∧ ∀ j, j ≠ (σ.1 41).toNatClampNeg → σ'.2.2.1 27 j = σ.2.2.1 27 j
theorem fw_s6 {Bk s a a' : Nat} {e e' : E5} {σ σ' : rS} (h : fs6 Bk s a a' e e' σ σ') : fw6 Bk s a a' e e' σ σ' := ⟨⟨fun g a b c d i _ => h.1.1 g a b c d i, fun g a b c d _ => h.1.2.1 g a b c d, h.1.2.2.1, h.1.2.2.2⟩, ⟨h.2.1.1, fun g a b c d i k _ _ => h.2.1.2.2.1 g a b c d i k, h.2.1.2.2.2.2⟩, h.2.2.1, h.2.2.2, fun j _ => by rw [h.2.1.2.2.1 27 (by decide) (by decide) (by decide) (by decide) (by decide) (by decide)]⟩

end
section
set_option maxHeartbeats 1600000
/-! statements that begin with a word: return, observe, gain, if, while, local -/
theorem fs_u6 {Bk s a a' f : Nat} {e : E5} {σ : rS} {x : Int32} (hf : f = 30 ∨ f = 32) : fs6 Bk s a a' e e σ (riU σ f s x) := by
  refine ⟨GS_r6, NS_u6 hf, cm_r6, fun j _ => ?_⟩
  rw [ri3 (by rcases hf with y | y <;> rw [y] <;> decide)]
theorem ri_s6 {f s j : Nat} {σ : rS} {x : Int32} : (riU σ f s x).2.2.1 f j = if j = s then x else σ.2.2.1 f j := ri4
theorem ri_o6 {f g s : Nat} {σ : rS} {x : Int32} (h : g ≠ f) : (riU σ f s x).2.2.1 g = σ.2.2.1 g := ri3 h
section
variable {T : T5} {X : X5} {Bk N : Nat} {Z : Int32} {a o s nv na : Nat} {R : List Qq6} {e e' : E5} {σ : rS}
theorem SR_l6 (H : TR5 T X Bk N Z) (S : SR6 T X Bk N Z a o R e σ) : R.length ≤ 200000 := by
  have h1 := H.1
  have := S.2.1.1
  have := S.2.2.2.2.2
  omega
theorem cm_S6 {a' o' : Nat} {A : List Qq6} {σ' : rS} (H : TR5 T X Bk N Z) (S : SR6 T X Bk N Z a o R e σ) (S' : SR6 T X Bk N Z a' o' (A ++ R) e' σ') : cm6 e e' := by
  have l := SR_l6 H S'
  rw [List.length_append] at l
  exact cm_c6 S.2.2.2.2.1 S'.2.2.2.2.1 (by omega)
/-- a column of the statement stored -/
theorem co_6 {c : Nat} {x : Int32} (J : JS6 T Bk N nv na s e σ) (hc : c ≤ 10) (b : Nat) : fs6 Bk s b b e (stc5 (Int32.ofNat s) (Int32.ofNat c) x e) σ σ ∧ (∀ i, (stc5 (Int32.ofNat s) (Int32.ofNat c) x e).2.1 506 i = if i = 11 * s + c then x else e.2.1 506 i) := by
  have j2 := J.2.1
  obtain ⟨g, w, m⟩ := GS_c6 (x := x) J.1 (Nat.lt_succ_self s) (by omega) hc
  exact ⟨⟨g, NS_r6, m, fun _ _ => rfl⟩, w⟩
/-- an expression of the statement -/
theorem xJ_6 (H : TR5 T X Bk N Z) (hE : T.2.1 (N - 1) = 142) (S : SR6 T X Bk N Z a o R e σ) (J : JS6 T Bk N nv na s e σ) (h : f5_Pa_expression (Int32.ofNat s) (-1) e = .inl (e', ())) : ∃ (a' : Nat) (K : List Qq6), a < a' ∧ SR6 T X Bk N Z a' o ((0, 0) :: (K.reverse ++ R)) e' (g5_expression σ).1 ∧ fs6 Bk s a a' e e' σ (g5_expression σ).1 ∧ xe6 T Bk nv na e' ((g5_expression σ).1.2.2.1 39) R.length a (R.length + K.length + 1) a' ∧ (∀ i, e'.2.1 506 i = if i = 11 * s + 4 then e.2.1 506 (11 * s + 4) + 1 else e.2.1 506 i) ∧ Nz6 σ (g5_expression σ).1 := by
  obtain ⟨a', K, y1, y2, y3, y4, y5, y6⟩ := xp_6 H hE S J.2.2.1 J.2.2.2.1 J.2.2.2.2.1 J.2.2.2.2.2 h
  obtain ⟨g, w⟩ := co_6 (c := 4) (x := cl5 (Int32.ofNat s) 4 e + 1) J (by omega) a
  have j2 := J.2.1
  have c4 : cl5 (Int32.ofNat s) 4 e = e.2.1 506 (11 * s + 4) := cl_s6 (c := 4) J.1 (Nat.lt_succ_self s) (by omega) (by omega)
  refine ⟨a', K, y1, y2, ⟨GS_t6 g.1 (GS_G6 y6), NS_N6 y3, cm_S6 (A := (0, 0) :: K.reverse) H S y2, y5⟩, y4, fun i => ?_, y3⟩
  rw [y6.2.1 506 (by decide) (by decide) (by decide)]
  exact (w i).trans (by rw [c4])
theorem xJt_6 {t : Nat} {e0 : E5} (H : TR5 T X Bk N Z) (hE : T.2.1 (N - 1) = 142) (S0 : SR6 T X Bk N Z t o R e0 σ) (k : T.2.1 t = 140) (S : SR6 T X Bk N Z (t + 1) o R e (g5_go σ)) (J : JS6 T Bk N nv na s e σ) (h : f5_Pa_expression (Int32.ofNat s) (Int32.ofNat t) e = .inl (e', ())) : ∃ (a' : Nat) (K : List Qq6), t < a' ∧ SR6 T X Bk N Z a' o ((0, 0) :: (K.reverse ++ R)) e' (g5_expression σ).1 ∧ fs6 Bk s t a' e e' σ (g5_expression σ).1 ∧ xe6 T Bk nv na e' ((g5_expression σ).1.2.2.1 39) R.length t (R.length + K.length + 1) a' ∧ (∀ i, e'.2.1 506 i = if i = 11 * s + 4 then e.2.1 506 (11 * s + 4) + 1 else e.2.1 506 i) ∧ Nz6 σ (g5_expression σ).1 := by
  obtain ⟨a', K, y1, y2, y3, y4, y5, y6⟩ := xpt_6 H hE S0 k S J.2.2.1 J.2.2.2.1 J.2.2.2.2.1 J.2.2.2.2.2 h
  obtain ⟨g, w⟩ := co_6 (c := 4) (x := cl5 (Int32.ofNat s) 4 e + 1) J (by omega) t
  have j2 := J.2.1
  have c4 : cl5 (Int32.ofNat s) 4 e = e.2.1 506 (11 * s + 4) := cl_s6 (c := 4) J.1 (Nat.lt_succ_self s) (by omega) (by omega)
  refine ⟨a', K, y1, y2, ⟨GS_t6 g.1 (GS_G6 y6), NS_N6 y3, cm_S6 (A := (0, 0) :: K.reverse) H S y2, y5⟩, y4, fun i => ?_, y3⟩
  rw [y6.2.1 506 (by decide) (by decide) (by decide)]
  exact (w i).trans (by rw [c4])
/-- an expression of a place: no column changes -/
theorem xJ_06 (H : TR5 T X Bk N Z) (hE : T.2.1 (N - 1) = 142) (S : SR6 T X Bk N Z a o R e σ) (J : JS6 T Bk N nv na s e σ) (h : f5_Pa_expression (-1) (-1) e = .inl (e', ())) : ∃ (a' : Nat) (K : List Qq6), a < a' ∧ SR6 T X Bk N Z a' o ((0, 0) :: (K.reverse ++ R)) e' (g5_expression σ).1 ∧ fs6 Bk s a a' e e' σ (g5_expression σ).1 ∧ xe6 T Bk nv na e' ((g5_expression σ).1.2.2.1 39) R.length a (R.length + K.length + 1) a' ∧ (∀ i, e'.2.1 506 i = e.2.1 506 i) ∧ Nz6 σ (g5_expression σ).1 := by
  obtain ⟨a', K, y1, y2, y3, y4, y5, y6⟩ := xp_6 H hE S J.2.2.1 J.2.2.2.1 J.2.2.2.2.1 J.2.2.2.2.2 h
  have es : stc5 (-1) 4 (cl5 (-1) 4 e + 1) e = e := by
    unfold stc5
    rw [if_pos (by decide)]
  rw [es] at y6
  exact ⟨a', K, y1, y2, ⟨GS_G6 y6, NS_N6 y3, cm_S6 (A := (0, 0) :: K.reverse) H S y2, y5⟩, y4, fun i => by rw [y6.2.1 506 (by decide) (by decide) (by decide)], y3⟩
/-- behind a statement -/
def fin6 (T : T5) (X : X5) (Bk N : Nat) (Z : Int32) (nv na s a a' o' : Nat) (e e' : E5) (σ σ' : rS) : Prop := (∃ R', SR6 T X Bk N Z a' o' R' e' σ') ∧ a < a' ∧ fw6 Bk s a a' e e' σ σ' ∧ stm6 T Bk nv na e' (σ'.2.2.1 30) (σ'.2.2.1 31) (σ'.2.2.1 32) (σ'.2.2.1 39) s a' ∧ ∀ c, 6 ≤ c → c ≤ 10 → e'.2.1 506 (11 * s + c) = e.2.1 506 (11 * s + c)
/-- before a statement's tokens -/
def beg6 (Bk s a : Nat) (R : List Qq6) (e : E5) (σ : rS) : Prop := e.2.1 506 (11 * s + 1) = 0 ∧ e.2.1 506 (11 * s + 3) = Int32.ofNat R.length ∧ e.2.1 506 (11 * s + 4) = 0 ∧ σ.2.2.1 31 s = Int32.ofNat (Bk + a)
/-- a word, its expression, its kind -/
theorem wx_6 {kk : Int32} (H : TR5 T X Bk N Z) (hE : T.2.1 (N - 1) = 142) (S : SR6 T X Bk N Z a o R e σ) (J : JS6 T Bk N nv na s e σ) (B : beg6 Bk s a R e σ) (hk : T.2.1 a ≠ 142) (hkk : kk = 6 ∨ kk = 7 ∨ kk = 8 ∨ kk = 9 ∨ kk = 10) (r30 : σ.2.2.1 30 s = kk) {e1 e2 : E5} (t1 : f5_Pa_take e = .inl (e1, ())) (t2 : f5_Pa_expression (Int32.ofNat s) (-1) e1 = .inl (e2, ())) : ∃ a' R', a < a' ∧ SR6 T X Bk N Z a' o R' (stc5 (Int32.ofNat s) 0 kk e2) (g5_expression (riU (g5_go σ) 32 s ((g5_go σ).1 10))).1 ∧ fs6 Bk s a a' e (stc5 (Int32.ofNat s) 0 kk e2) σ (g5_expression (riU (g5_go σ) 32 s ((g5_go σ).1 10))).1 ∧ (∀ τ e', sf6 (stc5 (Int32.ofNat s) 0 kk e2) e' (g5_expression (riU (g5_go σ) 32 s ((g5_go σ).1 10))).1 τ → stm6 T Bk nv na e' (τ.2.2.1 30) (τ.2.2.1 31) (τ.2.2.1 32) (τ.2.2.1 39) s (a' + 1)) ∧ (∀ c, 5 ≤ c → c ≤ 10 → (stc5 (Int32.ofNat s) 0 kk e2).2.1 506 (11 * s + c) = e.2.1 506 (11 * s + c)) ∧ (g5_expression (riU (g5_go σ) 32 s ((g5_go σ).1 10))).1.2.2.1 30 s = kk := by
  obtain ⟨b1, b3, b4, b31⟩ := B
  have j2 := J.2.1
  obtain ⟨S1, f1⟩ := sk_6 H hE S hk t1
  generalize g5_go σ = τ at S1 f1 ⊢
  have e10 : τ.1 10 = Int32.ofNat (Bk + (a + 1)) := S1.2.1.2.2.2
  rw [e10]
  have F1 : fs6 Bk s a (a + 1) e e1 σ τ := fs_s6 f1
  have F2 : fs6 Bk s (a + 1) (a + 1) e1 e1 τ (riU τ 32 s (Int32.ofNat (Bk + (a + 1)))) := fs_u6 (Or.inr rfl)
  have F12 := fs_t6 (by omega) (by omega) F1 F2
  have S2 := SR_u6 (f := 32) (i := s) (x := Int32.ofNat (Bk + (a + 1))) (by decide) S1
  have J2 := JS_m6 J F12.1 F12.2.1
  have v32 : (riU τ 32 s (Int32.ofNat (Bk + (a + 1)))).2.2.1 32 s = Int32.ofNat (Bk + (a + 1)) := by rw [ri_s6, if_pos rfl]
  have v30 : (riU τ 32 s (Int32.ofNat (Bk + (a + 1)))).2.2.1 30 s = kk := by
    rw [ri_o6 (by decide), f1.2.2.2.1]; exact r30
  generalize riU τ 32 s (Int32.ofNat (Bk + (a + 1))) = σ2 at F2 F12 S2 J2 v32 v30 ⊢
  obtain ⟨a2, K, l2, S3, F3, x3, w3, n3⟩ := xJ_6 H hE S2 J2 t2
  have F13 := fs_t6 (by omega) (by omega) F12 F3
  have J3 := JS_m6 J2 F3.1 F3.2.1
  obtain ⟨F4, w4⟩ := co_6 (c := 0) (x := kk) J3 (by omega) a2
  have F14 := fs_t6 (by omega) (by omega) F13 F4
  have w0 : ∀ i, e1.2.1 506 i = e.2.1 506 i := fun i => by rw [f1.2.1]
  have k0 : (stc5 (Int32.ofNat s) 0 kk e2).2.1 506 (11 * s) = kk := by
    have z := w4 (11 * s)
    rw [if_pos (by omega)] at z
    exact z
  have kc : ∀ c, 1 ≤ c → c ≤ 10 → c ≠ 4 → (stc5 (Int32.ofNat s) 0 kk e2).2.1 506 (11 * s + c) = e.2.1 506 (11 * s + c) := fun c x y q => by
    have z := w4 (11 * s + c)
    rw [if_neg (by omega), w3, if_neg (by omega), w0] at z
    exact z
  have k4 : (stc5 (Int32.ofNat s) 0 kk e2).2.1 506 (11 * s + 4) = 1 := by
    have z := w4 (11 * s + 4)
    rw [if_neg (by omega), w3, if_pos rfl, w0, b4] at z
    exact z
  refine ⟨a2, _, by omega, SR_c6 S3, F14, fun υ e' f => ?_, fun c x y => kc c (by omega) y (by omega), (congrFun (n3.2.2.1 30 (by decide) (by decide) (by decide) (by decide)) s).trans v30⟩
  have F5 : fs6 Bk s a2 a2 (stc5 (Int32.ofNat s) 0 kk e2) e' _ υ := fs_s6 f
  have F15 := fs_t6 (by omega) (by omega) F14 F5
  have r30' : υ.2.2.1 30 s = kk := by
    rw [f.2.2.2.1, n3.2.2.1 30 (by decide) (by decide) (by decide) (by decide)]; exact v30
  have r32' : υ.2.2.1 32 s = Int32.ofNat (Bk + (a + 1)) := by
    rw [f.2.2.2.1, n3.2.2.1 32 (by decide) (by decide) (by decide) (by decide)]; exact v32
  have r31' : υ.2.2.1 31 s = Int32.ofNat (Bk + a) := by
    rw [F15.2.1.2.2.1 31 (by decide) (by decide) (by decide) (by decide) (by decide) (by decide)]; exact b31
  have hR := S.2.2.2.2.2
  refine ⟨a, a + 1, R.length, r31', r32', ?_, by omega, by omega, hR, Or.inr (Or.inr (Or.inr ⟨?_, ?_, ?_, ?_, _, a2, xe_m6 x3 (cm_t6 F4.2.2.1 F5.2.2.1) (Nat.le_refl _) (Nat.le_refl _) (fun t _ _ _ _ => ?_), by omega⟩))⟩
  · rw [f.2.1, kc 3 (by omega) (by omega) (by omega)]; exact b3
  · rw [r30']; exact hkk
  · rw [r30', f.2.1]; exact k0
  · rw [f.2.1]; exact k4
  · rw [f.2.1, kc 1 (by omega) (by omega) (by omega)]; exact b1
  · rw [f.2.2.2.1]
/-- return, observe, gain -/
theorem wd_6 {kk : Int32} (H : TR5 T X Bk N Z) (hE : T.2.1 (N - 1) = 142) (S : SR6 T X Bk N Z a o R e σ) (J : JS6 T Bk N nv na s e σ) (B : beg6 Bk s a R e σ) (hk : T.2.1 a ≠ 142) (hkk : kk = 8 ∨ kk = 9 ∨ kk = 10) (r30 : σ.2.2.1 30 s = kk) (h : rdB5 (f5_Pa_take e) (fun e2 _ => rdB5 (f5_Pa_expression (Int32.ofNat s) (-1) e2) (fun e5 _ => f5_Pa_wordStatement_97 (Int32.ofNat s) 0 kk e5)) = .inl (e', ())) : ∃ a', fin6 T X Bk N Z nv na s a a' o e e' σ (g5_sign 59 (g5_expression (riU (g5_go σ) 32 s ((g5_go σ).1 10))).1) := by
  obtain ⟨e1, _, t1, t2⟩ := rb_s6 h
  obtain ⟨e2, _, t3, t4⟩ := rb_s6 t2
  obtain ⟨a2, R2, l2, S2, F2, q2, k2, _⟩ := wx_6 H hE S J B hk (Or.inr (Or.inr hkk)) r30 t1 t3
  unfold f5_Pa_wordStatement_97 at t4
  rw [stc_5, rdl_5, rb_u5] at t4
  obtain ⟨k59, S3, f3⟩ := sp_6 H hE S2 (by decide) (by decide) t4
  refine ⟨a2 + 1, ⟨_, S3⟩, by omega, fw_s6 (fs_t6 (by omega) (by omega) F2 (fs_s6 f3)), q2 _ _ f3, fun c x y => ?_⟩
  rw [f3.2.1]
  exact k2 c (by omega) y
/-- if, while: up to the block -/
theorem wi_6 {kk : Int32} (H : TR5 T X Bk N Z) (hE : T.2.1 (N - 1) = 142) (S : SR6 T X Bk N Z a o R e σ) (J : JS6 T Bk N nv na s e σ) (B : beg6 Bk s a R e σ) (hk : T.2.1 a ≠ 142) (hkk : kk = 6 ∨ kk = 7) (r30 : σ.2.2.1 30 s = kk) (h : rdB5 (f5_Pa_take e) (fun e2 _ => rdB5 (f5_Pa_expression (Int32.ofNat s) (-1) e2) (fun e5 _ => f5_Pa_wordStatement_49 (Int32.ofNat s) (Int32.ofNat s) 0 kk e5)) = .inl (e', ())) : ∃ a' e4, fin6 T X Bk N Z nv na s a a' (o + 1) e e4 σ (g5_open 123 (g5_expression (riU (g5_go σ) 32 s ((g5_go σ).1 10))).1) ∧ f5_Pa_pushBlock (Int32.ofNat s) 0 e4 = .inl (e', ()) ∧ (g5_open 123 (g5_expression (riU (g5_go σ) 32 s ((g5_go σ).1 10))).1).2.2.1 30 s = kk := by
  obtain ⟨e1, _, t1, t2⟩ := rb_s6 h
  obtain ⟨e2, _, t3, t4⟩ := rb_s6 t2
  obtain ⟨a2, R2, l2, S2, F2, q2, k2, v30⟩ := wx_6 H hE S J B hk (by rcases hkk with q | q; exact Or.inl q; exact Or.inr (Or.inl q)) r30 t1 t3
  unfold f5_Pa_wordStatement_49 at t4
  rw [stc_5, rdl_5] at t4
  obtain ⟨e4, _, t5, t6⟩ := rb_s6 t4
  rw [rb_u5] at t6
  obtain ⟨k123, o40, S3, f3⟩ := sop_6 H hE S2 (by decide) (by decide) t5
  refine ⟨a2 + 1, e4, ⟨⟨_, S3⟩, by omega, fw_s6 (fs_t6 (by omega) (by omega) F2 (fs_s6 f3)), q2 _ _ f3, fun c x y => ?_⟩, t6, by rw [f3.2.2.2.1]; exact v30⟩
  rw [f3.2.1]
  exact k2 c (by omega) y
end

end
section
set_option maxHeartbeats 1600000
/-! a local -/
theorem ao_6 {t : Int32} {e e' : E5} (h : f5_Pa_addOwn t e = .inl (e', ())) : (∀ g, g ≠ 1010 → e'.1 g = e.1 g) ∧ (∀ g, g ≠ 1009 → e'.2.1 g = e.2.1 g) ∧ e'.2.2 = e.2.2 := by
  unfold f5_Pa_addOwn at h
  by_cases q : (8 : Int32) ≤ e.1 paOwns
  · rw [if_pos q] at h
    have z := congrArg Prod.fst (Sum.inl.inj h)
    have z : e = e' := z
    subst z
    exact ⟨fun _ _ => rfl, fun _ _ => rfl, rfl⟩
  · rw [if_neg q] at h
    have z := congrArg Prod.fst (Sum.inl.inj h)
    have z : ((fun g => if g = paOwns then e.1 paOwns + 1 else e.1 g, fun g j => if g = paOwnNames ∧ j = (e.1 paOwns).toNatClampNeg then t else e.2.1 g j, e.2.2) : E5) = e' := z
    subst z
    exact ⟨fun g a => if_neg a, fun g a => by funext j; exact if_neg (fun y => a y.1), rfl⟩
section
variable {T : T5} {X : X5} {Bk N : Nat} {Z : Int32} {a o s nv na : Nat} {R : List Qq6} {e e' : E5} {σ : rS}
theorem SR_a6 (S : SR6 T X Bk N Z a o R e σ) (h1 : ∀ g, g ≠ 1010 → e'.1 g = e.1 g) (h2 : ∀ g, g ≠ 1009 → e'.2.1 g = e.2.1 g) (h3 : e'.2.2 = e.2.2) : SR6 T X Bk N Z a o R e' σ := by
  obtain ⟨⟨s1, s2, s3⟩, ⟨s4, s5, s6, s7⟩, s8, ⟨s9, s10, s11⟩, s12, s13⟩ := S
  refine ⟨⟨?_, s2, s3⟩, ⟨s4, (h1 1002 (by decide)).trans s5, (h1 1003 (by decide)).trans s6, s7⟩, s8, ⟨s9, (h1 1004 (by decide)).trans s10, s11⟩, cd_e6 s12 (h1 515 (by decide)) (h2 507 (by decide)) (h2 508 (by decide)), s13⟩
  rw [← s1]
  unfold tq5
  rw [h1 taLength (by decide), h1 taTotal (by decide), h2 taBytes (by decide), h2 taKinds (by decide), h2 taPlaces (by decide), h2 taLengths (by decide), h3]
theorem lc_6 (H : TR5 T X Bk N Z) (hE : T.2.1 (N - 1) = 142) (S : SR6 T X Bk N Z a o R e σ) (J : JS6 T Bk N nv na s e σ) (B : beg6 Bk s a R e σ) (hk : T.2.1 a = 153) (r30 : σ.2.2.1 30 s = 1) (h : f5_Pa_localStatement (Int32.ofNat s) e = .inl (e', ())) : ∃ a', fin6 T X Bk N Z nv na s a a' o e e' σ (tlL5 (Int32.ofNat s) σ) := by
  obtain ⟨b1, b3, b4, b31⟩ := B
  have j2 := J.2.1
  have hR := S.2.2.2.2.2
  obtain ⟨f, w, f10, o1, o2, o3⟩ : ∃ f w, f < 10 ∧ σ.1 41 = Int32.ofNat f ∧ e.1 512 = Int32.ofNat f ∧ pN5 T Bk N 8 (e.1 1010) (e.2.1 1009) (σ.2.2.1 27 f) (fun k => σ.2.2.1 28 (8 * f + k)) w := J.2.2.2.2.2
  unfold f5_Pa_localStatement at h
  obtain ⟨e1, _, t1, h⟩ := rb_s6 h
  obtain ⟨e5, r6, t2, h⟩ := rb_s6 h
  obtain ⟨e8, _, t3, h⟩ := rb_s6 h
  obtain ⟨e12, _, t4, h⟩ := rb_s6 h
  obtain ⟨e16, _, t5, h⟩ := rb_s6 h
  obtain ⟨S1, f1⟩ := sk_6 H hE S (by rw [hk]; decide) t1
  unfold tlL5
  dsimp only [pb5, pm5]
  generalize g5_go σ = σ1 at S1 f1 ⊢
  have F1 : fs6 Bk s a (a + 1) e e1 σ σ1 := fs_s6 f1
  have J1 := JS_m6 J F1.1 F1.2.1
  have m1 : σ1.2.2.1 27 (σ1.1 41).toNatClampNeg = Int32.ofNat w := by
    rw [f1.2.2.2.1, f1.2.2.1.1 41 (by decide) (by decide) (by decide) (by decide) (by decide), o1, cl_5 (by omega)]
    exact o3.2.2.1
  have m2 : e1.1 paOwns = Int32.ofNat w := (f1.1.1 1010 (by decide) (by decide) (by decide) (by decide) (by decide)).trans o3.2.1
  rw [m1]
  rw [m2] at t2
  obtain ⟨k1, rr, lt, fr, S2, f2⟩ := snn_6 (inF := 1) H hE S1 J1.2.2.2.2.1 (Or.inr ⟨rfl, J1.2.2.2.2.2⟩) t2
  have w8 : w < 8 := by
    have w9 := o3.1
    have l8 : (8 : Int32).toInt = 8 := rfl
    rw [lti, l8, ofn_i (by omega)] at lt
    omega
  rw [fr]
  generalize (g5_fresh 1 (Int32.ofNat w) 8 σ1).1 = σ2 at S2 f2 ⊢
  obtain ⟨k61, S3, f3⟩ := sp_6 H hE S2 (by decide) (by decide) t3
  generalize g5_sign 61 σ2 = σ3 at S3 f3 ⊢
  have h1 := H.1
  have hN := S3.2.1.1
  have e10 : σ3.1 10 = Int32.ofNat (Bk + (a + 3)) := S3.2.1.2.2.2
  rw [e10, cl_5 (show s ≤ 67108864 by omega), cl_5 (show Bk + (a + 1) ≤ 67108864 by omega)]
  have F2 : fs6 Bk s (a + 1) (a + 2) e1 e5 σ1 σ2 := fs_s6 f2
  have F3 : fs6 Bk s (a + 2) (a + 3) e5 e8 σ2 σ3 := fs_s6 f3
  have F4 : fs6 Bk s (a + 3) (a + 3) e8 e8 σ3 (riU σ3 32 s (Int32.ofNat (Bk + (a + 3)))) := fs_u6 (Or.inr rfl)
  have F14 := fs_t6 (by omega) (by omega) (fs_t6 (by omega) (by omega) (fs_t6 (by omega) (by omega) F1 F2) F3) F4
  have S4 := SR_u6 (f := 32) (i := s) (x := Int32.ofNat (Bk + (a + 3))) (by decide) S3
  have J4 := JS_m6 J F14.1 F14.2.1
  have v32 : (riU σ3 32 s (Int32.ofNat (Bk + (a + 3)))).2.2.1 32 s = Int32.ofNat (Bk + (a + 3)) := by rw [ri_s6, if_pos rfl]
  have v30 : (riU σ3 32 s (Int32.ofNat (Bk + (a + 3)))).2.2.1 30 s = 1 := by
    rw [ri_o6 (by decide), f3.2.2.2.1, f2.2.2.2.1, f1.2.2.2.1]; exact r30
  generalize riU σ3 32 s (Int32.ofNat (Bk + (a + 3))) = σ4 at F4 F14 S4 J4 v32 v30 ⊢
  obtain ⟨a5, K, l5, S5, F5, x5, w5, n5⟩ := xJ_6 H hE S4 J4 t4
  generalize (g5_expression σ4).1 = σ5 at S5 F5 x5 n5 ⊢
  obtain ⟨k59, S6, f6⟩ := sp_6 H hE S5 (by decide) (by decide) t5
  generalize g5_sign 59 σ5 = σ6 at S6 f6 ⊢
  have F6 : fs6 Bk s a5 (a5 + 1) e12 e16 σ5 σ6 := fs_s6 f6
  have F16 := fs_t6 (by omega) (by omega) (fs_t6 (by omega) (by omega) F14 F5) F6
  have J6 := JS_m6 J F16.1 F16.2.1
  have m6 : σ6.2.2.1 27 (σ6.1 41).toNatClampNeg = Int32.ofNat w := by
    rw [F16.2.1.2.2.1 27 (by decide) (by decide) (by decide) (by decide) (by decide) (by decide), F16.2.1.1 41 (by decide) (by decide) (by decide) (by decide) (by decide), o1, cl_5 (by omega)]
    exact o3.2.2.1
  have m7 : e16.1 paOwns = Int32.ofNat w := (F16.1.1 1010 (by decide) (by decide) (by decide) (by decide) (by decide)).trans o3.2.1
  rw [(ok_goz6 S6.2.2.1).2, if_neg ne105, m6, show (100 : Int32) = Int32.ofNat 100 from rfl, ad_n6 (by omega)]
  unfold f5_Pa_setPlace at h
  rw [stc_5, rdl_5, stc_5, rdl_5, rdl_5, stc_5, rdl_5, rb_u5, m7] at h
  obtain ⟨A1, u1⟩ := co_6 (c := 1) (x := 2) J6 (by omega) (a5 + 1)
  have J7 := JS_m6 J6 A1.1 A1.2.1
  obtain ⟨A2, u2⟩ := co_6 (c := 2) (x := Int32.ofNat w) J7 (by omega) (a5 + 1)
  have J8 := JS_m6 J7 A2.1 A2.2.1
  obtain ⟨A3, u3⟩ := co_6 (c := 0) (x := 0) J8 (by omega) (a5 + 1)
  have F19 := fs_t6 (by omega) (by omega) (fs_t6 (by omega) (by omega) (fs_t6 (by omega) (by omega) F16 A1) A2) A3
  have S9 := SR_c6 (n := Int32.ofNat s) (c := Int32.ofNat 0) (x := 0) (SR_c6 (n := Int32.ofNat s) (c := Int32.ofNat 2) (x := Int32.ofNat w) (SR_c6 (n := Int32.ofNat s) (c := Int32.ofNat 1) (x := 2) S6))
  have h : f5_Pa_addOwn r6 (stc5 (Int32.ofNat s) (Int32.ofNat 0) 0 (stc5 (Int32.ofNat s) (Int32.ofNat 2) (Int32.ofNat w) (stc5 (Int32.ofNat s) (Int32.ofNat 1) 2 e16))) = .inl (e', ()) := h
  have wv : ∀ i, (stc5 (Int32.ofNat s) (Int32.ofNat 0) 0 (stc5 (Int32.ofNat s) (Int32.ofNat 2) (Int32.ofNat w) (stc5 (Int32.ofNat s) (Int32.ofNat 1) 2 e16))).2.1 506 i = if i = 11 * s + 0 then 0 else if i = 11 * s + 2 then Int32.ofNat w else if i = 11 * s + 1 then 2 else if i = 11 * s + 4 then 1 else e.2.1 506 i := fun i => by
    rw [u3 i, u2 i, u1 i, f6.2.1, w5 i, f3.2.1, f2.2.1, f1.2.1, b4]
    rfl
  generalize stc5 (Int32.ofNat s) (Int32.ofNat 0) 0 (stc5 (Int32.ofNat s) (Int32.ofNat 2) (Int32.ofNat w) (stc5 (Int32.ofNat s) (Int32.ofNat 1) 2 e16)) = e25 at h wv F19 S9 A3
  obtain ⟨g1, g2, g3⟩ := ao_6 h
  have e506 : e'.2.1 506 = e25.2.1 506 := g2 506 (by decide)
  have cm : cm6 e25 e' := cm_e6 (g1 515 (by decide)) (g2 507 (by decide)) (g2 508 (by decide))
  have S10 := SR_a6 S9 g1 g2 g3
  -- the reference's last three stores
  have q39 : ∀ (i1 i2 : Nat) (y1 y2 : Int32) (j : Nat), (riU (riU (riU σ6 39 (Bk + (a + 1)) (Int32.ofNat (100 + w))) 28 i1 y1) 27 i2 y2).2.2.1 39 j = if j = Bk + (a + 1) then Int32.ofNat (100 + w) else σ6.2.2.1 39 j := fun i1 i2 y1 y2 j => by
    rw [ri_o6 (by decide), ri_o6 (by decide), ri_s6]
  refine ⟨a5 + 1, ⟨_, SR_u6 (by decide) (SR_u6 (by decide) (SR_u6 (by decide) S10))⟩, by omega, ⟨⟨fun g x1 x2 x3 x4 x5 x6 => (g1 g x6).trans (F19.1.1 g x1 x2 x3 x4 x5), fun g x1 x2 x3 x4 x5 => (g2 g x5).trans (F19.1.2.1 g x1 x2 x3 x4), g3.trans F19.1.2.2.1, fun i hi => by rw [e506]; exact F19.1.2.2.2 i hi⟩, ⟨fun g x1 x2 x3 x4 x5 => F19.2.1.1 g x1 x2 x3 x4 x5, fun g x1 x2 x3 x4 x5 x6 x7 x8 => ?_, fun j hj => ⟨?_, ?_⟩⟩, cm_t6 F19.2.2.1 cm, fun j hj => ?_, fun j hj => ?_⟩, ⟨a, a + 3, R.length, ?_, ?_, ?_, by omega, by omega, hR, Or.inl ⟨?_, ?_, ?_, k1, k61, by omega, ?_, Or.inl ⟨?_, w, w8, ?_, ?_⟩, _, a5, xe_m6 x5 (cm_t6 (cm_t6 (cm_t6 (cm_t6 F6.2.2.1 A1.2.2.1) A2.2.2.1) A3.2.2.1) cm) (Nat.le_refl _) (Nat.le_refl _) (fun t y1 y2 y3 y4 => ?_), by omega⟩⟩, fun c y1 y2 => ?_⟩
  · rw [ri_o6 x7, ri_o6 x8, ri_o6 x4]
    exact F19.2.1.2.2.1 g x1 x2 x3 x4 x5 x6
  · rw [ri_o6 (by decide), ri_o6 (by decide), ri_o6 (by decide)]
    exact (F19.2.1.2.2.2.2 j hj).1
  · rw [ri_o6 (by decide), ri_o6 (by decide), ri_o6 (by decide)]
    exact (F19.2.1.2.2.2.2 j hj).2
  · rw [q39, if_neg (fun q => hj ⟨by omega, by omega⟩)]
    exact F19.2.2.2 j hj
  · rw [ri_s6, if_neg (fun q => hj (q.trans (congrArg Int32.toNatClampNeg (F16.2.1.1 41 (by decide) (by decide) (by decide) (by decide) (by decide))))), ri_o6 (by decide), ri_o6 (by decide), F19.2.1.2.2.1 27 (by decide) (by decide) (by decide) (by decide) (by decide) (by decide)]
  · rw [ri_o6 (by decide), ri_o6 (by decide), ri_o6 (by decide), F19.2.1.2.2.1 31 (by decide) (by decide) (by decide) (by decide) (by decide) (by decide)]
    exact b31
  · rw [ri_o6 (by decide), ri_o6 (by decide), ri_o6 (by decide), f6.2.2.2.1, n5.2.2.1 32 (by decide) (by decide) (by decide) (by decide)]
    exact v32
  · rw [e506, wv, if_neg (by omega), if_neg (by omega), if_neg (by omega), if_neg (by omega)]
    exact b3
  · rw [ri_o6 (by decide), ri_o6 (by decide), ri_o6 (by decide), f6.2.2.2.1, n5.2.2.1 30 (by decide) (by decide) (by decide) (by decide)]
    exact v30
  · rw [e506, wv, if_pos (by omega)]
  · rw [e506, wv, if_neg (by omega), if_neg (by omega), if_neg (by omega), if_pos rfl]
  · rw [e506, wv, if_neg (by omega), if_neg (by omega), if_pos rfl]
  · rw [e506, wv, if_neg (by omega), if_neg (by omega), if_pos rfl]
  · rw [e506, wv, if_neg (by omega), if_pos rfl]
  · rw [q39, if_pos rfl]
  · rw [q39, if_neg (fun q => by omega), f6.2.2.2.1]
  · rw [e506, wv, if_neg (by omega), if_neg (by omega), if_neg (by omega), if_neg (by omega)]
end

end
section
set_option maxHeartbeats 1600000
/-! arguments of a call; draws -/
theorem ps_t6 {c : Int32} {e e' : E5} (h : f5_Pa_pass c e = .inl (e', ())) : e.1 paKind = c ∧ f5_Pa_take e = .inl (e', ()) := by
  unfold f5_Pa_pass at h
  by_cases k : e.1 paKind = c
  · rw [if_pos k, rb_u5] at h
    exact ⟨k, h⟩
  · rw [if_neg k] at h; cases h
/-- what expressions of statement s leave: its count of them, its notes -/
def ff6 (s : Nat) (e e' : E5) (σ σ' : rS) : Prop := (∀ i, i ≠ 11 * s + 4 → e'.2.1 506 i = e.2.1 506 i) ∧ σ'.2.2.1 30 = σ.2.2.1 30 ∧ σ'.2.2.1 32 = σ.2.2.1 32
theorem ff_t6 {s : Nat} {e f g : E5} {σ τ υ : rS} (h : ff6 s e f σ τ) (k : ff6 s f g τ υ) : ff6 s e g σ υ := ⟨fun i hi => (k.1 i hi).trans (h.1 i hi), k.2.1.trans h.2.1, k.2.2.trans h.2.2⟩
theorem ff_s6 {s : Nat} {e e' : E5} {σ σ' : rS} (h : sf6 e e' σ σ') : ff6 s e e' σ σ' := ⟨fun i _ => by rw [h.2.1], by rw [h.2.2.2.1], by rw [h.2.2.2.1]⟩
theorem ff_x6 {s : Nat} {e e' : E5} {σ σ' : rS} (w : ∀ i, e'.2.1 506 i = if i = 11 * s + 4 then e.2.1 506 (11 * s + 4) + 1 else e.2.1 506 i) (n : Nz6 σ σ') : ff6 s e e' σ σ' := ⟨fun i hi => by rw [w i, if_neg hi], n.2.2.1 30 (by decide) (by decide) (by decide) (by decide), n.2.2.1 32 (by decide) (by decide) (by decide) (by decide)⟩
section
variable {T : T5} {X : X5} {Bk N : Nat} {Z : Int32} {o s nv na : Nat} {e' : E5}
theorem pc_6 {a : Nat} {R : List Qq6} {e : E5} {σ : rS} {c : Int32} (H : TR5 T X Bk N Z) (hE : T.2.1 (N - 1) = 142) (S : SR6 T X Bk N Z a (o + 1) R e σ) (c0 : 0 < c.toInt) (c1 : c.toInt < 128) (h : rdB5 (f5_Pa_closeSign c e) (fun e8 _ => f5_Pa_statement_268 e8) = .inl (e', ())) : T.2.1 a = c ∧ SR6 T X Bk N Z (a + 2) o R e' (g5_sign 59 (g5_close c σ)) ∧ sf6 e e' σ (g5_sign 59 (g5_close c σ)) := by
  obtain ⟨e1, _, t1, t2⟩ := rb_s6 h
  unfold f5_Pa_statement_268 at t2
  rw [rb_u5] at t2
  obtain ⟨k1, S1, f1⟩ := scl_6 H hE S c0 c1 t1
  obtain ⟨k2, S2, f2⟩ := sp_6 H hE S1 (by decide) (by decide) t2
  exact ⟨k1, S2, sf_t6 f1 f2⟩
theorem rdA6 {α β γ : Type} {m : R5 α} {k : E5 → α → R5 β} {l : E5 → β → R5 γ} : rdB5 (rdB5 m k) l = rdB5 m (fun e a => rdB5 (k e a) l) := by
  rcases m with ⟨e, a⟩ | x <;> rfl
theorem ar_6 (H : TR5 T X Bk N Z) (hE : T.2.1 (N - 1) = 142) : ∀ (m mr j a : Nat) (R : List Qq6) (e : E5) (σ : rS), SR6 T X Bk N Z a (o + 1) R e σ → JS6 T Bk N nv na s e σ → e.2.1 506 (11 * s + 4) = Int32.ofNat j → j ≤ a → N - a + 2 ≤ mr → rdB5 (f5_Pa_finish_48 m (Int32.ofNat s) 5 1 (Int32.ofNat j) e) (fun e8 _ => f5_Pa_statement_268 e8) = .inl (e', ()) → ∃ a' R' n p' z, SR6 T X Bk N Z a' o R' e' (g5_arguments_28 mr 1 σ) ∧ a < a' ∧ fs6 Bk s a a' e e' σ (g5_arguments_28 mr 1 σ) ∧ xs6 T Bk nv na e' ((g5_arguments_28 mr 1 σ).2.2.1 39) n R.length a p' z ∧ z < a' ∧ n + j ≤ a' ∧ e'.2.1 506 (11 * s + 4) = Int32.ofNat (j + n) ∧ ff6 s e e' σ (g5_arguments_28 mr 1 σ)
  | 0, _, _, _, _, _, _, _, _, _, _, _, h => by cases h
  | m + 1, mr, j, a, R, e, σ, S, J, hj, ja, hmr, h => by
    have h1 := H.1
    have hN := S.2.1.1
    obtain ⟨mr, rfl⟩ : ∃ k, mr = k + 1 := ⟨mr - 1, by omega⟩
    have eT : e.1 taTotal = Int32.ofNat N := by rw [← h1.1, ← S.1.1]; rfl
    rw [f5_Pa_finish_48, if_neg ne105, eT, if_neg (by rw [lti, ofn_i (by omega), ofn_i (by omega)]; omega), rdA6] at h
    obtain ⟨e7, _, t1, h⟩ := rb_s6 h
    obtain ⟨a2, K, l2, S2, F2, x2, w2, n2⟩ := xJ_6 H hE S J t1
    have J2 := JS_m6 J F2.1 F2.2.1
    have er : g5_arguments_28 (mr + 1) 1 σ = if T.2.1 a2 = 44 then g5_arguments_28 mr 1 (g5_go (g5_expression σ).1) else g5_arguments_28 mr 0 (g5_expression σ).1 := by
      rw [g5_arguments_28]
      dsimp only [pb5, pm5]
      rw [(ok_goz6 S.2.2.1).2, if_neg ne105, if_neg ne105, (ok_goz6 S2.2.2.1).2, if_neg ne105, sn_6 H S2 (by decide) (by decide)]
      unfold g5_arguments_65
      dsimp only [pb5]
      by_cases q : T.2.1 a2 = 44
      · rw [if_pos q, if_neg ne105, if_pos q, if_neg ne105]
      · rw [if_neg q, if_pos rfl, if_neg q, if_pos rfl]
    rw [er]
    generalize (g5_expression σ).1 = σ3 at S2 F2 x2 n2 J2
    have c4 : e7.2.1 506 (11 * s + 4) = Int32.ofNat (j + 1) := by
      rw [w2, if_pos rfl, hj, on_15 (by omega)]
    have k7 : e7.1 paKind = T.2.1 a2 := S2.2.1.2.2.1
    by_cases q : T.2.1 a2 = 44
    · rw [if_pos rfl, k7, if_pos q] at h
      rw [if_pos q]
      unfold f5_Pa_finish_107 at h
      rw [if_neg ne105, rdA6] at h
      obtain ⟨e9, _, t2, h⟩ := rb_s6 h
      obtain ⟨_, t3⟩ := ps_t6 t2
      have h : rdB5 (f5_Pa_finish_48 m (Int32.ofNat s) 5 1 (Int32.ofNat j + 1) e9) (fun e8 _ => f5_Pa_statement_268 e8) = .inl (e', ()) := h
      rw [on_15 (by omega)] at h
      obtain ⟨S3, f3⟩ := sk_6 H hE S2 (by rw [q]; decide) t3
      have F3 : fs6 Bk s a2 (a2 + 1) e7 e9 σ3 (g5_go σ3) := fs_s6 f3
      have J3 := JS_m6 J2 F3.1 F3.2.1
      generalize g5_go σ3 = σ4 at S3 f3 F3 J3 ⊢
      obtain ⟨a', R', n, p', z, y1, y2, y3, y4, y5, y6, y7, y8⟩ := ar_6 H hE m mr (j + 1) (a2 + 1) _ e9 σ4 S3 J3 (by rw [f3.2.1]; exact c4) (by omega) (by omega) h
      generalize g5_arguments_28 mr 1 σ4 = σ5 at y1 y3 y4 y8 ⊢
      have F13 := fs_t6 (by omega) (by omega) F2 F3
      refine ⟨a', R', n + 1, p', z, y1, by omega, fs_t6 (by omega) (by omega) F13 y3, ⟨_, a2, xe_m6 x2 (cm_t6 F3.2.2.1 y3.2.2.1) (Nat.le_refl _) (Nat.le_refl _) (fun t u1 u2 _ _ => ?_), Or.inr ⟨?_, ?_, ?_⟩⟩, y5, by omega, ?_, ff_t6 (ff_t6 (ff_x6 w2 n2) (ff_s6 f3)) y8⟩
      · rw [y3.2.2.2 (Bk + t) (by omega), f3.2.2.2.1]
      · cases n with
        | zero => exact y4.elim
        | succ n => omega
      · have zl : a2 + 1 ≤ z := by
          cases n with
          | zero => exact y4.elim
          | succ n =>
            obtain ⟨_, b1, u1, u2⟩ := y4
            have := u1.2.2
            rcases u2 with ⟨_, _, u3⟩ | ⟨_, u3, _⟩ <;> omega
        omega
      · have el : ((0, 0) :: (K.reverse ++ R) : List Qq6).length = R.length + K.length + 1 := by rw [List.length_cons, List.length_append, List.length_reverse]; omega
        rw [el] at y4
        exact y4
      · rw [y7]; congr 1; omega
    · rw [if_pos rfl, k7, if_neg q] at h
      rw [if_neg q]
      unfold f5_Pa_finish_107 at h
      rw [if_pos rfl] at h
      dsimp only [pb5] at h
      cases m with
      | zero => cases h
      | succ m =>
        rw [f5_Pa_finish_48, if_pos rfl, rb_u5] at h
        obtain ⟨mr, rfl⟩ : ∃ k, mr = k + 1 := ⟨mr - 1, by omega⟩
        have er2 : g5_arguments_28 (mr + 1) 0 σ3 = g5_sign 59 (g5_close 41 σ3) := by
          rw [g5_arguments_28]
          dsimp only [pb5, pm5]
          rw [(ok_goz6 S2.2.2.1).2, if_neg ne105, if_pos rfl]
          rfl
        rw [er2]
        obtain ⟨k41, S3, f3⟩ := pc_6 H hE S2 (by decide) (by decide) h
        refine ⟨a2 + 2, _, 1, _, a2, S3, by omega, fs_t6 (by omega) (by omega) F2 (fs_s6 f3), ⟨_, a2, xe_m6 x2 (fs_s6 (Bk := Bk) (s := s) (a := 0) (a' := 0) f3).2.2.1 (Nat.le_refl _) (Nat.le_refl _) (fun t u1 u2 _ _ => by rw [f3.2.2.2.1]), Or.inl ⟨rfl, rfl, rfl⟩⟩, by omega, by omega, ?_, ff_t6 (ff_x6 w2 n2) (ff_s6 f3)⟩
        rw [f3.2.1]
        exact c4
/-- a call's arguments from its bracket on -/
theorem ag_6 {a : Nat} {R : List Qq6} {e : E5} {σ : rS} (H : TR5 T X Bk N Z) (hE : T.2.1 (N - 1) = 142) (S : SR6 T X Bk N Z a o R e σ) (J : JS6 T Bk N nv na s e σ) (c4 : e.2.1 506 (11 * s + 4) = 0) (h : rdB5 (f5_Pa_finish (Int32.ofNat s) 5 e) (fun e8 _ => f5_Pa_statement_268 e8) = .inl (e', ())) : ∃ a' R' n, T.2.1 a = 40 ∧ SR6 T X Bk N Z a' o R' e' (g5_arguments σ) ∧ a + 1 < a' ∧ fs6 Bk s a a' e e' σ (g5_arguments σ) ∧ (n = 0 ∨ ∃ p' z, xs6 T Bk nv na e' ((g5_arguments σ).2.2.1 39) n R.length (a + 1) p' z ∧ z ≤ a') ∧ n ≤ 65537 ∧ e'.2.1 506 (11 * s + 4) = Int32.ofNat n ∧ ff6 s e e' σ (g5_arguments σ) := by
  have h1 := H.1
  unfold f5_Pa_finish at h
  rw [if_neg (by decide), rdA6] at h
  obtain ⟨e1, _, t1, h⟩ := rb_s6 h
  obtain ⟨k40, o40, S1, f1⟩ := sop_6 H hE S (by decide) (by decide) t1
  have F1 : fs6 Bk s a (a + 1) e e1 σ (g5_open 40 σ) := fs_s6 f1
  have J1 := JS_m6 J F1.1 F1.2.1
  have eg : g5_arguments σ = if T.2.1 (a + 1) = 41 then g5_arguments_28 fu5 0 (g5_open 40 σ) else g5_arguments_28 fu5 1 (g5_open 40 σ) := by
    unfold g5_arguments
    dsimp only [pb5]
    rw [(ok_goz6 S1.2.2.1).2, if_neg ne105, sn_6 H S1 (by decide) (by decide)]
    by_cases q : T.2.1 (a + 1) = 41
    · rw [if_pos q, if_neg ne105, if_pos q]
    · rw [if_neg q, if_pos rfl, if_neg q]
  have k1 : e1.1 paKind = T.2.1 (a + 1) := S1.2.1.2.2.1
  have hN := S1.2.1.1
  rw [eg]
  rw [if_pos rfl, k1] at h
  generalize g5_open 40 σ = σ1 at S1 f1 F1 J1 ⊢
  by_cases q : T.2.1 (a + 1) = 41
  · rw [if_pos q] at h ⊢
    have h : rdB5 (f5_Pa_finish_48 (4294967295 + 1) (Int32.ofNat s) 5 0 0 e1) (fun e8 _ => f5_Pa_statement_268 e8) = .inl (e', ()) := h
    rw [f5_Pa_finish_48, if_pos rfl, rb_u5] at h
    have er2 : g5_arguments_28 fu5 0 σ1 = g5_sign 59 (g5_close 41 σ1) := by
      show g5_arguments_28 (4294967295 + 1) 0 σ1 = _
      rw [g5_arguments_28]
      dsimp only [pb5, pm5]
      rw [(ok_goz6 S1.2.2.1).2, if_neg ne105, if_pos rfl]
      rfl
    rw [er2]
    obtain ⟨k41, S2, f2⟩ := pc_6 H hE S1 (by decide) (by decide) h
    refine ⟨a + 3, _, 0, k40, S2, by omega, fs_t6 (by omega) (by omega) F1 (fs_s6 f2), Or.inl rfl, by omega, ?_, ff_t6 (ff_s6 f1) (ff_s6 f2)⟩
    rw [f2.2.1, f1.2.1]
    exact c4
  · rw [if_neg q] at h ⊢
    have h : rdB5 (f5_Pa_finish_48 fu5 (Int32.ofNat s) 5 1 (Int32.ofNat 0) e1) (fun e8 _ => f5_Pa_statement_268 e8) = .inl (e', ()) := h
    obtain ⟨a', R', n, p', z, y1, y2, y3, y4, y5, y6, y7, y8⟩ := ar_6 H hE fu5 fu5 0 (a + 1) R e1 σ1 S1 J1 (by rw [f1.2.1]; exact c4) (by omega) (by unfold fu5; omega) h
    have hN' := y1.2.1.1
    refine ⟨a', R', n, k40, y1, by omega, fs_t6 (by omega) (by omega) F1 y3, Or.inr ⟨p', z, y4, by omega⟩, by omega, ?_, ff_t6 (ff_s6 f1) y8⟩
    rw [y7]; congr 1; omega
/-- one expression in brackets: pick, choose -/
theorem f1_6 {a : Nat} {R : List Qq6} {e : E5} {σ : rS} {k : Int32} (H : TR5 T X Bk N Z) (hE : T.2.1 (N - 1) = 142) (S : SR6 T X Bk N Z a o R e σ) (J : JS6 T Bk N nv na s e σ) (k0 : k ≠ 0) (k5 : k ≠ 5) (k2 : k ≠ 2) (h : rdB5 (f5_Pa_finish (Int32.ofNat s) k e) (fun e8 _ => f5_Pa_statement_268 e8) = .inl (e', ())) : ∃ a' R' p' z, T.2.1 a = 40 ∧ SR6 T X Bk N Z a' o R' e' (g5_sign 59 (g5_close 41 (g5_expression (g5_open 40 σ)).1)) ∧ a < a' ∧ fs6 Bk s a a' e e' σ (g5_sign 59 (g5_close 41 (g5_expression (g5_open 40 σ)).1)) ∧ xe6 T Bk nv na e' ((g5_sign 59 (g5_close 41 (g5_expression (g5_open 40 σ)).1)).2.2.1 39) R.length (a + 1) p' z ∧ z ≤ a' ∧ e'.2.1 506 (11 * s + 4) = e.2.1 506 (11 * s + 4) + 1 ∧ ff6 s e e' σ (g5_sign 59 (g5_close 41 (g5_expression (g5_open 40 σ)).1)) := by
  have h1 := H.1
  unfold f5_Pa_finish at h
  rw [if_neg k0, rdA6] at h
  obtain ⟨e1, _, t1, h⟩ := rb_s6 h
  obtain ⟨k40, o40, S1, f1⟩ := sop_6 H hE S (by decide) (by decide) t1
  have F1 : fs6 Bk s a (a + 1) e e1 σ (g5_open 40 σ) := fs_s6 f1
  have J1 := JS_m6 J F1.1 F1.2.1
  generalize g5_open 40 σ = σ1 at S1 f1 F1 J1 ⊢
  rw [if_neg k5] at h
  have h : rdB5 (f5_Pa_finish_48 (4294967295 + 1) (Int32.ofNat s) k 1 0 e1) (fun e8 _ => f5_Pa_statement_268 e8) = .inl (e', ()) := h
  have hN := S1.2.1.1
  have eT : e1.1 taTotal = Int32.ofNat N := by rw [← h1.1, ← S1.1.1]; rfl
  rw [f5_Pa_finish_48, if_neg ne105, eT, if_neg (by rw [lti, ofn_i (by omega), t0i]; omega), rdA6] at h
  obtain ⟨e7, _, t2, h⟩ := rb_s6 h
  obtain ⟨a2, K, l2, S2, F2, x2, w2, n2⟩ := xJ_6 H hE S1 J1 t2
  generalize (g5_expression σ1).1 = σ2 at S2 F2 x2 n2 ⊢
  rw [if_neg k5, if_neg k2] at h
  unfold f5_Pa_finish_107 at h
  rw [if_pos rfl] at h
  have h : rdB5 (f5_Pa_finish_48 (4294967294 + 1) (Int32.ofNat s) k 0 (0 + 1) e7) (fun e8 _ => f5_Pa_statement_268 e8) = .inl (e', ()) := h
  rw [f5_Pa_finish_48, if_pos rfl, rb_u5] at h
  obtain ⟨k41, S3, f3⟩ := pc_6 H hE S2 (by decide) (by decide) h
  have F3 : fs6 Bk s a2 (a2 + 2) e7 e' σ2 _ := fs_s6 f3
  refine ⟨a2 + 2, _, _, a2, k40, S3, by omega, fs_t6 (by omega) (by omega) (fs_t6 (by omega) (by omega) F1 F2) F3, xe_m6 x2 F3.2.2.1 (Nat.le_refl _) (Nat.le_refl _) (fun t u1 u2 _ _ => by rw [f3.2.2.2.1]), by omega, ?_, ff_t6 (ff_t6 (ff_s6 f1) (ff_x6 w2 n2)) (ff_s6 f3)⟩
  rw [f3.2.1, w2, if_pos rfl, f1.2.1]
/-- two: flip -/
theorem f2_6 {a : Nat} {R : List Qq6} {e : E5} {σ : rS} (H : TR5 T X Bk N Z) (hE : T.2.1 (N - 1) = 142) (S : SR6 T X Bk N Z a o R e σ) (J : JS6 T Bk N nv na s e σ) (h : rdB5 (f5_Pa_finish (Int32.ofNat s) 2 e) (fun e8 _ => f5_Pa_statement_268 e8) = .inl (e', ())) : ∃ a' R' p2 a2 p' z, T.2.1 a = 40 ∧ SR6 T X Bk N Z a' o R' e' (g5_sign 59 (g5_close 41 (g5_expression (g5_sign 44 (g5_expression (g5_open 40 σ)).1)).1)) ∧ a < a' ∧ fs6 Bk s a a' e e' σ (g5_sign 59 (g5_close 41 (g5_expression (g5_sign 44 (g5_expression (g5_open 40 σ)).1)).1)) ∧ xe6 T Bk nv na e' ((g5_sign 59 (g5_close 41 (g5_expression (g5_sign 44 (g5_expression (g5_open 40 σ)).1)).1)).2.2.1 39) R.length (a + 1) p2 a2 ∧ xe6 T Bk nv na e' ((g5_sign 59 (g5_close 41 (g5_expression (g5_sign 44 (g5_expression (g5_open 40 σ)).1)).1)).2.2.1 39) p2 (a2 + 1) p' z ∧ z ≤ a' ∧ e'.2.1 506 (11 * s + 4) = e.2.1 506 (11 * s + 4) + 1 + 1 ∧ ff6 s e e' σ (g5_sign 59 (g5_close 41 (g5_expression (g5_sign 44 (g5_expression (g5_open 40 σ)).1)).1)) := by
  have h1 := H.1
  unfold f5_Pa_finish at h
  rw [if_neg (by decide), rdA6] at h
  obtain ⟨e1, _, t1, h⟩ := rb_s6 h
  obtain ⟨k40, o40, S1, f1⟩ := sop_6 H hE S (by decide) (by decide) t1
  have F1 : fs6 Bk s a (a + 1) e e1 σ (g5_open 40 σ) := fs_s6 f1
  have J1 := JS_m6 J F1.1 F1.2.1
  generalize g5_open 40 σ = σ1 at S1 f1 F1 J1 ⊢
  rw [if_neg (by decide)] at h
  have h : rdB5 (f5_Pa_finish_48 (4294967295 + 1) (Int32.ofNat s) 2 1 0 e1) (fun e8 _ => f5_Pa_statement_268 e8) = .inl (e', ()) := h
  have hN := S1.2.1.1
  have eT : e1.1 taTotal = Int32.ofNat N := by rw [← h1.1, ← S1.1.1]; rfl
  rw [f5_Pa_finish_48, if_neg ne105, eT, if_neg (by rw [lti, ofn_i (by omega), t0i]; omega), rdA6] at h
  obtain ⟨e7, _, t2, h⟩ := rb_s6 h
  obtain ⟨a2, K, l2, S2, F2, x2, w2, n2⟩ := xJ_6 H hE S1 J1 t2
  have J2 := JS_m6 J1 F2.1 F2.2.1
  generalize (g5_expression σ1).1 = σ2 at S2 F2 x2 n2 J2 ⊢
  rw [if_neg (by decide), if_pos rfl, if_pos rfl] at h
  unfold f5_Pa_finish_107 at h
  rw [if_neg ne105, rdA6] at h
  obtain ⟨e9, _, t3, h⟩ := rb_s6 h
  obtain ⟨k44, S3, f3⟩ := sp_6 H hE S2 (by decide) (by decide) t3
  have F3 : fs6 Bk s a2 (a2 + 1) e7 e9 σ2 (g5_sign 44 σ2) := fs_s6 f3
  have J3 := JS_m6 J2 F3.1 F3.2.1
  generalize g5_sign 44 σ2 = σ3 at S3 f3 F3 J3 ⊢
  have h : rdB5 (f5_Pa_finish_48 (4294967294 + 1) (Int32.ofNat s) 2 1 (0 + 1) e9) (fun e8 _ => f5_Pa_statement_268 e8) = .inl (e', ()) := h
  have hN3 := S3.2.1.1
  have eT3 : e9.1 taTotal = Int32.ofNat N := by rw [← h1.1, ← S3.1.1]; rfl
  have l01 : (0 + 1 : Int32).toInt = 1 := rfl
  rw [f5_Pa_finish_48, if_neg ne105, eT3, if_neg (by rw [lti, ofn_i (by omega), l01]; omega), rdA6] at h
  obtain ⟨e11, _, t4, h⟩ := rb_s6 h
  obtain ⟨a4, K4, l4, S4, F4, x4, w4, n4⟩ := xJ_6 H hE S3 J3 t4
  generalize (g5_expression σ3).1 = σ4 at S4 F4 x4 n4 ⊢
  rw [if_neg (by decide), if_pos rfl, if_neg (by decide)] at h
  unfold f5_Pa_finish_107 at h
  rw [if_pos rfl] at h
  have h : rdB5 (f5_Pa_finish_48 (4294967293 + 1) (Int32.ofNat s) 2 0 (0 + 1 + 1) e11) (fun e8 _ => f5_Pa_statement_268 e8) = .inl (e', ()) := h
  rw [f5_Pa_finish_48, if_pos rfl, rb_u5] at h
  obtain ⟨k41, S5, f5⟩ := pc_6 H hE S4 (by decide) (by decide) h
  have F5 : fs6 Bk s a4 (a4 + 2) e11 e' σ4 _ := fs_s6 f5
  have el : ((0, 0) :: (K.reverse ++ R) : List Qq6).length = R.length + K.length + 1 := by rw [List.length_cons, List.length_append, List.length_reverse]; omega
  rw [el] at x4
  refine ⟨a4 + 2, _, _, a2, _, a4, k40, S5, by omega, fs_t6 (by omega) (by omega) (fs_t6 (by omega) (by omega) (fs_t6 (by omega) (by omega) (fs_t6 (by omega) (by omega) F1 F2) F3) F4) F5, xe_m6 x2 (cm_t6 (cm_t6 F3.2.2.1 F4.2.2.1) F5.2.2.1) (Nat.le_refl _) (Nat.le_refl _) (fun t u1 u2 _ _ => ?_), xe_m6 x4 F5.2.2.1 (Nat.le_refl _) (Nat.le_refl _) (fun t u1 u2 _ _ => by rw [f5.2.2.2.1]), by omega, ?_, ff_t6 (ff_t6 (ff_t6 (ff_t6 (ff_s6 f1) (ff_x6 w2 n2)) (ff_s6 f3)) (ff_x6 w4 n4)) (ff_s6 f5)⟩
  · rw [f5.2.2.2.1, F4.2.2.2 (Bk + t) (by omega), f3.2.2.2.1]
  · rw [f5.2.1, w4, if_pos rfl, f3.2.1, w2, if_pos rfl, f1.2.1]
/-- pairs of a draw -/
theorem sl_6 (H : TR5 T X Bk N Z) (hE : T.2.1 (N - 1) = 142) : ∀ (m mr n a : Nat) (R : List Qq6) (e : E5) (σ : rS), SR6 T X Bk N Z a (o + 1) R e σ → JS6 T Bk N nv na s e σ → e.2.1 506 (11 * s + 4) = Int32.ofNat (2 * n) → n ≤ 8 → N - a + 3 ≤ mr → rdB5 (f5_Pa_spread_10 m (Int32.ofNat s) 1 (Int32.ofNat n) e) (fun e8 _ => f5_Pa_statement_268 e8) = .inl (e', ()) → ∃ a' R' k p' z, SR6 T X Bk N Z a' o R' e' (g5_tellDraw_77 mr (Int32.ofNat n) 1 σ) ∧ a < a' ∧ fs6 Bk s a a' e e' σ (g5_tellDraw_77 mr (Int32.ofNat n) 1 σ) ∧ sp6 T Bk nv na e' ((g5_tellDraw_77 mr (Int32.ofNat n) 1 σ).2.2.1 39) k R.length a p' z ∧ a < z ∧ z < a' ∧ n + k ≤ 8 ∧ e'.2.1 506 (11 * s + 4) = Int32.ofNat (2 * (n + k)) ∧ ff6 s e e' σ (g5_tellDraw_77 mr (Int32.ofNat n) 1 σ)
  | 0, _, _, _, _, _, _, _, _, _, _, _, h => by cases h
  | m + 1, mr, n, a, R, e, σ, S, J, hn, n8, hmr, h => by
    have h1 := H.1
    have hN := S.2.1.1
    obtain ⟨mr, rfl⟩ : ∃ k, mr = k + 1 := ⟨mr - 1, by omega⟩
    have l8 : (8 : Int32).toInt = 8 := rfl
    rw [f5_Pa_spread_10, if_neg ne105, if_neg (by rw [lti, l8, ofn_i (by omega)]; omega), rdA6] at h
    obtain ⟨e7, _, t1, h⟩ := rb_s6 h
    rw [rdA6] at h
    obtain ⟨e10, _, t2, h9⟩ := rb_s6 h
    obtain ⟨a2, K, l2, S2, F2, x2, w2, n2⟩ := xJ_6 H hE S J t1
    have J2 := JS_m6 J F2.1 F2.2.1
    have k7 : e7.1 paKind = T.2.1 a2 := S2.2.1.2.2.1
    have k58 : e7.1 paKind = 58 ∧ e10 = e7 := by
      unfold f5_Pa_expect at t2
      by_cases q : e7.1 paKind = 58
      · rw [if_pos q] at t2
        exact ⟨q, (congrArg Prod.fst (Sum.inl.inj t2)).symm⟩
      · rw [if_neg q] at t2; cases t2
    obtain ⟨k58, e10e⟩ := k58
    rw [e10e] at h9
    clear h
    have h := h9
    clear h9
    have k58' : T.2.1 a2 = 58 := k7.symm.trans k58
    have n7 : n < 8 := by
      by_cases q : Int32.ofNat n < 8
      · rw [lti, l8, ofn_i (by omega)] at q; omega
      · rw [if_neg q] at h; cases h
    rw [if_pos (by rw [lti, l8, ofn_i (by omega)]; omega)] at h
    unfold f5_Pa_spread_48 at h
    rw [rdA6] at h
    obtain ⟨e11, _, t3, h⟩ := rb_s6 h
    rw [rdA6] at h
    obtain ⟨e12, _, t4, h⟩ := rb_s6 h
    have hs : g5_sign 58 (g5_expression σ).1 = g5_go (g5_expression σ).1 := by
      unfold g5_sign
      dsimp only [pb5]
      rw [sn_6 H S2 (by decide) (by decide), if_pos k58', if_neg ne105]
    have e1 := t77_s5 (m := mr) (n := Int32.ofNat n) (ok_goz6 S.2.2.1).2 (rfl : (g5_expression σ).1 = (g5_expression σ).1)
    rw [(ok_goz6 S2.2.2.1).2, if_neg ne105, sn_6 H S2 (by decide) (by decide), if_pos k58', if_neg ne105, if_neg (fun q => by
      have z := congrArg Int32.toInt q
      rw [l8, ofn_i (by omega)] at z
      omega), t125_5, hs] at e1
    rw [e1]
    generalize (g5_expression σ).1 = σ2 at S2 F2 x2 n2 J2 hs e1 ⊢
    obtain ⟨S3, f3⟩ := sk_6 H hE S2 (by rw [k58']; decide) t3
    have F3 : fs6 Bk s a2 (a2 + 1) e7 e11 σ2 (g5_go σ2) := fs_s6 f3
    have J3 := JS_m6 J2 F3.1 F3.2.1
    generalize g5_go σ2 = σ3 at S3 f3 F3 J3 ⊢
    obtain ⟨a4, K4, l4, S4, F4, x4, w4, n4⟩ := xJ_6 H hE S3 J3 t4
    have J4 := JS_m6 J3 F4.1 F4.2.1
    rw [(ok_goz6 S4.2.2.1).2, if_neg ne105, sn_6 H S4 (by decide) (by decide)]
    generalize (g5_expression σ3).1 = σ4 at S4 F4 x4 n4 J4 ⊢
    have k12 : e12.1 paKind = T.2.1 a4 := S4.2.1.2.2.1
    have el : ((0, 0) :: (K.reverse ++ R) : List Qq6).length = R.length + K.length + 1 := by rw [List.length_cons, List.length_append, List.length_reverse]; omega
    rw [el] at x4
    have on : Int32.ofNat n + 1 = Int32.ofNat (n + 1) := on_15 (by omega)
    have c4 : e12.2.1 506 (11 * s + 4) = Int32.ofNat (2 * (n + 1)) := by
      rw [w4, if_pos rfl, f3.2.1, w2, if_pos rfl, hn, on_15 (by omega), on_15 (by omega)]
      congr 1
    have F24 := fs_t6 (by omega) (by omega) (fs_t6 (by omega) (by omega) F2 F3) F4
    have ff4 := ff_t6 (ff_t6 (ff_x6 w2 n2) (ff_s6 f3)) (ff_x6 w4 n4)
    by_cases q : T.2.1 a4 = 44
    · rw [k12, if_pos q] at h
      rw [if_pos q, if_neg ne105]
      unfold f5_Pa_spread_72 at h
      rw [if_neg ne105, rdA6] at h
      obtain ⟨e13, _, t5, h⟩ := rb_s6 h
      have h : rdB5 (f5_Pa_spread_10 m (Int32.ofNat s) 1 (Int32.ofNat n + 1) e13) (fun e8 _ => f5_Pa_statement_268 e8) = .inl (e', ()) := h
      have e160 : g5_tellDraw_160 (g5_tellDraw_77 mr) (Int32.ofNat n + 1) 1 σ4 = g5_tellDraw_77 mr (Int32.ofNat n + 1) 1 (g5_go σ4) := by
        unfold g5_tellDraw_160
        dsimp only [pb5]
        rw [if_neg ne105]
      rw [e160, on]
      rw [on] at h
      obtain ⟨S5, f5⟩ := sk_6 H hE S4 (by rw [q]; decide) t5
      have F5 : fs6 Bk s a4 (a4 + 1) e12 e13 σ4 (g5_go σ4) := fs_s6 f5
      have J5 := JS_m6 J4 F5.1 F5.2.1
      generalize g5_go σ4 = σ5 at S5 f5 F5 J5 ⊢
      obtain ⟨a', R', k, p', z, y1, y2, y3, y4, y9, y5, y6, y7, y8⟩ := sl_6 H hE m mr (n + 1) (a4 + 1) _ e13 σ5 S5 J5 (by rw [f5.2.1]; exact c4) (by omega) (by omega) h
      generalize g5_tellDraw_77 mr (Int32.ofNat (n + 1)) 1 σ5 = σ6 at y1 y3 y4 y8 ⊢
      refine ⟨a', R', k + 1, p', z, y1, by omega, fs_t6 (by omega) (by omega) (fs_t6 (by omega) (by omega) F24 F5) y3, ⟨_, a2, _, a4, xe_m6 x2 (cm_t6 (cm_t6 (cm_t6 F3.2.2.1 F4.2.2.1) F5.2.2.1) y3.2.2.1) (Nat.le_refl _) (Nat.le_refl _) (fun t u1 u2 _ _ => ?_), k58', xe_m6 x4 (cm_t6 F5.2.2.1 y3.2.2.1) (Nat.le_refl _) (Nat.le_refl _) (fun t u1 u2 _ _ => ?_), Or.inr ⟨?_, by omega, q, ?_⟩⟩, by omega, y5, by omega, ?_, ff_t6 (ff_t6 ff4 (ff_s6 f5)) y8⟩
      · rw [y3.2.2.2 (Bk + t) (by omega), f5.2.2.2.1, F4.2.2.2 (Bk + t) (by omega), f3.2.2.2.1]
      · rw [y3.2.2.2 (Bk + t) (by omega), f5.2.2.2.1]
      · cases k with
        | zero => exact y4.elim
        | succ k => omega
      · have el4 : ((0, 0) :: (K4.reverse ++ ((0, 0) :: (K.reverse ++ R))) : List Qq6).length = R.length + K.length + 1 + K4.length + 1 := by rw [List.length_cons, List.length_append, List.length_reverse, el]; omega
        rw [el4] at y4
        exact y4
      · rw [y7]; congr 1; omega
    · rw [k12, if_neg q] at h
      rw [if_neg q, if_pos rfl]
      unfold f5_Pa_spread_72 at h
      rw [if_pos rfl] at h
      dsimp only [pb5] at h
      cases m with
      | zero => cases h
      | succ m =>
        rw [f5_Pa_spread_10, if_pos rfl, rb_u5] at h
        obtain ⟨mr, rfl⟩ : ∃ k, mr = k + 1 := ⟨mr - 1, by omega⟩
        have er2 : g5_tellDraw_160 (g5_tellDraw_77 (mr + 1)) (Int32.ofNat n + 1) 0 σ4 = g5_sign 59 (g5_close 125 σ4) := by
          unfold g5_tellDraw_160
          rw [if_pos rfl, t77_05]
          rfl
        rw [er2]
        obtain ⟨k125, S5, f5⟩ := pc_6 H hE S4 (by decide) (by decide) h
        have F5 : fs6 Bk s a4 (a4 + 2) e12 e' σ4 _ := fs_s6 f5
        refine ⟨a4 + 2, _, 1, _, a4, S5, by omega, fs_t6 (by omega) (by omega) F24 F5, ⟨_, a2, _, a4, xe_m6 x2 (cm_t6 (cm_t6 F3.2.2.1 F4.2.2.1) F5.2.2.1) (Nat.le_refl _) (Nat.le_refl _) (fun t u1 u2 _ _ => ?_), k58', xe_m6 x4 F5.2.2.1 (Nat.le_refl _) (Nat.le_refl _) (fun t u1 u2 _ _ => by rw [f5.2.2.2.1]), Or.inl ⟨rfl, k125, rfl, rfl⟩⟩, by omega, by omega, by omega, ?_, ff_t6 ff4 (ff_s6 f5)⟩
        · rw [f5.2.2.2.1, F4.2.2.2 (Bk + t) (by omega), f3.2.2.2.1]
        · rw [f5.2.1]; exact c4
theorem sd_6 {a : Nat} {R : List Qq6} {e : E5} {σ : rS} (H : TR5 T X Bk N Z) (hE : T.2.1 (N - 1) = 142) (S : SR6 T X Bk N Z a o R e σ) (J : JS6 T Bk N nv na s e σ) (c4 : e.2.1 506 (11 * s + 4) = 0) (h : rdB5 (f5_Pa_spread (Int32.ofNat s) e) (fun e8 _ => f5_Pa_statement_268 e8) = .inl (e', ())) : ∃ a' R' k p' z, T.2.1 a = 123 ∧ SR6 T X Bk N Z a' o R' e' (g5_tellDraw_77 fu5 0 (g5_isRight (g5_open 123 σ)) (g5_open 123 σ)) ∧ a < a' ∧ fs6 Bk s a a' e e' σ (g5_tellDraw_77 fu5 0 (g5_isRight (g5_open 123 σ)) (g5_open 123 σ)) ∧ sp6 T Bk nv na e' ((g5_tellDraw_77 fu5 0 (g5_isRight (g5_open 123 σ)) (g5_open 123 σ)).2.2.1 39) k R.length (a + 1) p' z ∧ z ≤ a' ∧ k ≤ 8 ∧ e'.2.1 506 (11 * s + 4) = Int32.ofNat (2 * k) ∧ ff6 s e e' σ (g5_tellDraw_77 fu5 0 (g5_isRight (g5_open 123 σ)) (g5_open 123 σ)) := by
  unfold f5_Pa_spread at h
  rw [rdA6] at h
  obtain ⟨e1, _, t1, h⟩ := rb_s6 h
  obtain ⟨k123, o40, S1, f1⟩ := sop_6 H hE S (by decide) (by decide) t1
  have F1 : fs6 Bk s a (a + 1) e e1 σ (g5_open 123 σ) := fs_s6 f1
  have J1 := JS_m6 J F1.1 F1.2.1
  rw [(ok_goz6 S1.2.2.1).2]
  generalize g5_open 123 σ = σ1 at S1 f1 F1 J1 ⊢
  have h : rdB5 (f5_Pa_spread_10 fu5 (Int32.ofNat s) 1 (Int32.ofNat 0) e1) (fun e8 _ => f5_Pa_statement_268 e8) = .inl (e', ()) := h
  have h1 := H.1
  obtain ⟨a', R', k, p', z, y1, y2, y3, y4, y9, y5, y6, y7, y8⟩ := sl_6 H hE fu5 fu5 0 (a + 1) R e1 σ1 S1 J1 (by rw [f1.2.1]; exact c4) (by omega) (by unfold fu5; omega) h
  refine ⟨a', R', k, p', z, k123, y1, by omega, fs_t6 (by omega) (by omega) F1 y3, y4, by omega, by omega, ?_, ff_t6 (ff_s6 f1) y8⟩
  rw [y7]; congr 1; omega
end

end
