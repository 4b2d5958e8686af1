set_option maxRecDepth 100000 in
theorem g_law_0 : GoodIn lw_tbl (va_wsS RL 94 yL_feed wq_c_L_feed) := goodIn_sub (mb_a (mb_r [1679, 1680, 247] rfl (fun _ h => h)) in_c_L_feed) (by decide +kernel)
set_option maxRecDepth 100000 in
theorem g_law_1 : GoodIn lw_tbl (wsV RL 99 RX13 yX13_feed wq_c_X13_feed) := goodIn_sub (mb_a (mb_r [2946, 2947, 2948, 262] rfl (fun _ h => h)) in_c_X13_feed) (by decide +kernel)
set_option maxRecDepth 100000 in
theorem g_law_2 : GoodIn lw_tbl (wsV RL 100 RX13 yX13_thrown wq_c_X13_thrown) := goodIn_sub (mb_a (mb_r [2549, 2550, 2551, 262] rfl (fun _ h => h)) in_c_X13_thrown) (by decide +kernel)
set_option maxRecDepth 100000 in
theorem g_law_3 : GoodIn lw_tbl (va_wsS RL 103 yL_end wq_c_L_end) := goodIn_sub (mb_a (mb_r [1713, 1714, 247] rfl (fun _ h => h)) in_c_L_end) (by decide +kernel)
set_option maxRecDepth 100000 in
theorem g_law_4 : GoodIn lw_tbl (wsV RL 106 RX13 yX13_end wq_c_X13_end) := goodIn_sub (mb_a (mb_r [2950, 2951, 2952, 262] rfl (fun _ h => h)) in_c_X13_end) (by decide +kernel)
set_option maxRecDepth 100000 in
theorem g_law_5 : GoodIn lw_tbl (wsV RL 107 RX12 yX12_program wq_c_X12_program) := goodIn_sub (mb_a (mb_r [1015, 1016, 1017, 248] rfl (fun _ h => h)) in_c_X12_program) (by decide +kernel)
set_option maxRecDepth 100000 in
theorem g_law_6 : GoodIn lw_tbl (wsV RL 110 RX13 yX13_program wq_c_X13_program) := goodIn_sub (mb_a (mb_r [2954, 2955, 2956, 262] rfl (fun _ h => h)) in_c_X13_program) (by decide +kernel)
set_option maxRecDepth 100000 in
theorem g_law_7 : GoodIn lw_tbl (wsV RL 111 RX12 yX12_fault wq_c_X12_fault) := goodIn_sub (mb_a (mb_r [1671, 1672, 1673, 248] rfl (fun _ h => h)) in_c_X12_fault) (by decide +kernel)
set_option maxRecDepth 100000 in
theorem g_law_8 : GoodIn lw_tbl (wsV RL 114 RX13 yX13_fault wq_c_X13_fault) := goodIn_sub (mb_a (mb_r [3208, 3209, 3210, 262] rfl (fun _ h => h)) in_c_X13_fault) (by decide +kernel)
set_option maxRecDepth 100000 in
theorem g_law_9 : GoodIn lw_tbl (va_wsS RL 115 yL_count wq_c_L_count) := goodIn_sub (mb_a (mb_r [1724, 1725, 247] rfl (fun _ h => h)) in_c_L_count) (by decide +kernel)
set_option maxRecDepth 100000 in
theorem g_law_10 : GoodIn lw_tbl (wsV RL 118 RX13 yX13_count wq_c_X13_count) := goodIn_sub (mb_a (mb_r [3333, 3334, 3335, 262] rfl (fun _ h => h)) in_c_X13_count) (by decide +kernel)
set_option maxRecDepth 100000 in
theorem g_law_11 : GoodIn lw_tbl (va_wsS RL 119 yL_explore wq_c_L_explore) := goodIn_sub (mb_a (mb_r [1757, 1758, 247] rfl (fun _ h => h)) in_c_L_explore) (by decide +kernel)
set_option maxRecDepth 100000 in
theorem g_law_12 : GoodIn lw_tbl (wsV RL 121 RX13 yX13_explore wq_c_X13_explore) := goodIn_sub (mb_a (mb_r [3212, 3213, 3214, 262] rfl (fun _ h => h)) in_c_X13_explore) (by decide +kernel)
set_option maxRecDepth 100000 in
theorem g_law_13 : GoodIn lw_tbl (va_wsS RL 122 yL_state wq_c_L_state) := goodIn_sub (mb_a (mb_r [1960, 1961, 247] rfl (fun _ h => h)) in_c_L_state) (by decide +kernel)
set_option maxRecDepth 100000 in
theorem g_law_14 : GoodIn lw_tbl (wsV RL 125 RX13 yX13_state wq_c_X13_state) := goodIn_sub (mb_a (mb_r [3337, 3338, 3339, 262] rfl (fun _ h => h)) in_c_X13_state) (by decide +kernel)
set_option maxRecDepth 100000 in
theorem g_law_15 : GoodIn lw_tbl (va_wsS RL 126 yL_value wq_c_L_value) := goodIn_sub (mb_a (mb_r [1990, 1991, 247] rfl (fun _ h => h)) in_c_L_value) (by decide +kernel)
set_option maxRecDepth 100000 in
theorem g_law_16 : GoodIn lw_tbl (wsV RL 129 RX13 yX13_value wq_c_X13_value) := goodIn_sub (mb_a (mb_r [3349, 3350, 3351, 262] rfl (fun _ h => h)) in_c_X13_value) (by decide +kernel)
set_option maxRecDepth 100000 in
theorem g_law_17 : GoodIn lw_tbl (va_wsS RL 130 yL_next wq_c_L_next) := goodIn_sub (mb_a (mb_r [2013, 2014, 247] rfl (fun _ h => h)) in_c_L_next) (by decide +kernel)
set_option maxRecDepth 100000 in
theorem g_law_18 : GoodIn lw_tbl (wsV RL 132 RX13 yX13_next wq_c_X13_next) := goodIn_sub (mb_a (mb_r [3353, 3354, 3355, 262] rfl (fun _ h => h)) in_c_X13_next) (by decide +kernel)
set_option maxRecDepth 100000 in
theorem g_law_19 : GoodIn lw_tbl (va_wsS RL 133 yL_ending wq_c_L_ending) := goodIn_sub (mb_a (mb_r [2021, 2022, 247] rfl (fun _ h => h)) in_c_L_ending) (by decide +kernel)
set_option maxRecDepth 100000 in
theorem g_law_20 : GoodIn lw_tbl (wsV RL 135 RX13 yX13_ending wq_c_X13_ending) := goodIn_sub (mb_a (mb_r [3357, 3358, 3359, 262] rfl (fun _ h => h)) in_c_X13_ending) (by decide +kernel)
set_option maxRecDepth 100000 in
theorem g_law_21 : GoodIn lw_tbl (va_wsS RL 136 yL_decide wq_c_L_decide) := goodIn_sub (mb_a (mb_r [2035, 2036, 247] rfl (fun _ h => h)) in_c_L_decide) (by decide +kernel)
set_option maxRecDepth 100000 in
theorem g_law_22 : GoodIn lw_tbl (wsV RL 138 RX13 yX13_decide wq_c_X13_decide) := goodIn_sub (mb_a (mb_r [3361, 3362, 3363, 262] rfl (fun _ h => h)) in_c_X13_decide) (by decide +kernel)
set_option maxRecDepth 100000 in
theorem g_law_23 : GoodIn lw_tbl (va_wsS RL 139 yL_decided wq_c_L_decided) := goodIn_sub (mb_a (mb_r [2043, 2044, 247] rfl (fun _ h => h)) in_c_L_decided) (by decide +kernel)
set_option maxRecDepth 100000 in
theorem g_law_24 : GoodIn lw_tbl (wsV RL 141 RX13 yX13_decided wq_c_X13_decided) := goodIn_sub (mb_a (mb_r [3365, 3366, 3367, 262] rfl (fun _ h => h)) in_c_X13_decided) (by decide +kernel)
set_option maxRecDepth 100000 in
theorem g_law_25 : GoodIn lw_tbl (va_wsS RL 142 yL_best wq_c_L_best) := goodIn_sub (mb_a (mb_r [2051, 2052, 247] rfl (fun _ h => h)) in_c_L_best) (by decide +kernel)
set_option maxRecDepth 100000 in
theorem g_law_26 : GoodIn lw_tbl (wsV RL 145 RX13 yX13_best wq_c_X13_best) := goodIn_sub (mb_a (mb_r [3594, 3595, 3596, 262] rfl (fun _ h => h)) in_c_X13_best) (by decide +kernel)
set_option maxRecDepth 100000 in
theorem g_law_27 : GoodIn lw_tbl (va_wsS RL 146 yL_solve wq_c_L_solve) := goodIn_sub (mb_a (mb_r [2239, 2240, 247] rfl (fun _ h => h)) in_c_L_solve) (by decide +kernel)
set_option maxRecDepth 100000 in
theorem g_law_28 : GoodIn lw_tbl (wsV RL 148 RX13 yX13_solve wq_c_X13_solve) := goodIn_sub (mb_a (mb_r [3369, 3370, 3371, 262] rfl (fun _ h => h)) in_c_X13_solve) (by decide +kernel)
set_option maxRecDepth 100000 in
theorem g_law_29 : GoodIn lw_tbl (va_wsS RL 149 yL_show wq_c_L_show) := goodIn_sub (mb_a (mb_r [2325, 2326, 247] rfl (fun _ h => h)) in_c_L_show) (by decide +kernel)
set_option maxRecDepth 100000 in
theorem g_law_30 : GoodIn lw_tbl (wsV RL 151 RX13 yX13_show wq_c_X13_show) := goodIn_sub (mb_a (mb_r [3509, 3510, 3511, 262] rfl (fun _ h => h)) in_c_X13_show) (by decide +kernel)
set_option maxRecDepth 100000 in
theorem g_law_31 : GoodIn lw_tbl (va_wsS RL 152 yL_size wq_c_L_size) := goodIn_sub (mb_a (mb_r [2384, 2385, 247] rfl (fun _ h => h)) in_c_L_size) (by decide +kernel)
set_option maxRecDepth 100000 in
theorem g_law_32 : GoodIn lw_tbl (wsV RL 154 RX13 yX13_size wq_c_X13_size) := goodIn_sub (mb_a (mb_r [3544, 3545, 3546, 262] rfl (fun _ h => h)) in_c_X13_size) (by decide +kernel)
set_option maxRecDepth 100000 in
theorem g_law_33 : GoodIn lw_tbl (va_wsS RL 155 yL_limb wq_c_L_limb) := goodIn_sub (mb_a (mb_r [2397, 2398, 247] rfl (fun _ h => h)) in_c_L_limb) (by decide +kernel)
set_option maxRecDepth 100000 in
theorem g_law_34 : GoodIn lw_tbl (wsV RL 157 RX13 yX13_limb wq_c_X13_limb) := goodIn_sub (mb_a (mb_r [3552, 3553, 3554, 262] rfl (fun _ h => h)) in_c_X13_limb) (by decide +kernel)
set_option maxRecDepth 100000 in
theorem g_law_35 : GoodIn lw_tbl (va_wsS RL 158 yL_tell wq_c_L_tell) := goodIn_sub (mb_a (mb_r [2409, 2410, 247] rfl (fun _ h => h)) in_c_L_tell) (by decide +kernel)
set_option maxRecDepth 100000 in
theorem g_law_36 : GoodIn lw_tbl (wsV RL 160 RX13 yX13_tell wq_c_X13_tell) := goodIn_sub (mb_a (mb_r [3556, 3557, 3558, 262] rfl (fun _ h => h)) in_c_X13_tell) (by decide +kernel)
set_option maxRecDepth 100000 in
theorem g_law_37 : GoodIn lw_tbl (wsV RL 161 RX12 yX12_forget wq_c_X12_forget) := goodIn_sub (mb_a (mb_r [1675, 1676, 1677, 248] rfl (fun _ h => h)) in_c_X12_forget) (by decide +kernel)
set_option maxRecDepth 100000 in
theorem g_law_38 : GoodIn lw_tbl (wsV RL 164 RX13 yX13_forget wq_c_X13_forget) := goodIn_sub (mb_a (mb_r [3560, 3561, 3562, 262] rfl (fun _ h => h)) in_c_X13_forget) (by decide +kernel)
set_option maxRecDepth 100000 in
theorem g_law_39 : GoodIn lw_tbl (va_wsS RL 167 yL_play wq_c_L_play) := goodIn_sub (mb_a (mb_r [2417, 2418, 247] rfl (fun _ h => h)) in_c_L_play) (by decide +kernel)
set_option maxRecDepth 100000 in
theorem g_law_40 : GoodIn lw_tbl (wsV RL 170 RX13 yX13_play wq_c_X13_play) := goodIn_sub (mb_a (mb_r [3564, 3565, 3566, 262] rfl (fun _ h => h)) in_c_X13_play) (by decide +kernel)
set_option maxRecDepth 100000 in
theorem g_law_41 : GoodIn lw_tbl (va_wsS RL 171 yL_walk wq_c_L_walk) := goodIn_sub (mb_a (mb_r [2458, 2459, 247] rfl (fun _ h => h)) in_c_L_walk) (by decide +kernel)
set_option maxRecDepth 100000 in
theorem g_law_42 : GoodIn lw_tbl (wsV RL 173 RX13 yX13_walk wq_c_X13_walk) := goodIn_sub (mb_a (mb_r [3586, 3587, 3588, 262] rfl (fun _ h => h)) in_c_X13_walk) (by decide +kernel)
set_option maxRecDepth 100000 in
theorem g_law_43 : GoodIn lw_tbl (va_wsS RL 174 yL_played wq_c_L_played) := goodIn_sub (mb_a (mb_r [2465, 2466, 247] rfl (fun _ h => h)) in_c_L_played) (by decide +kernel)
set_option maxRecDepth 100000 in
theorem g_law_44 : GoodIn lw_tbl (wsV RL 176 RX13 yX13_played wq_c_X13_played) := goodIn_sub (mb_a (mb_r [3590, 3591, 3592, 262] rfl (fun _ h => h)) in_c_X13_played) (by decide +kernel)
set_option maxRecDepth 100000 in
theorem g_law_45 : GoodIn lw_tbl (va_wsS RL 177 yL_independent wq_c_L_independent) := goodIn_sub (mb_a (mb_r [2473, 2474, 247] rfl (fun _ h => h)) in_c_L_independent) (by decide +kernel)
set_option maxRecDepth 100000 in
theorem g_law_46 : GoodIn lw_tbl (wsV RL 179 RX13 yX13_independent wq_c_X13_independent) := goodIn_sub (mb_a (mb_r [3622, 3623, 3624, 262] rfl (fun _ h => h)) in_c_X13_independent) (by decide +kernel)
set_option maxRecDepth 100000 in
theorem g_law_47 : GoodIn lw_tbl (va_wsS RL 180 yL_given wq_c_L_given) := goodIn_sub (mb_a (mb_r [2542, 2543, 247] rfl (fun _ h => h)) in_c_L_given) (by decide +kernel)
set_option maxRecDepth 100000 in
theorem g_law_48 : GoodIn lw_tbl (wsV RL 182 RX13 yX13_given wq_c_X13_given) := goodIn_sub (mb_a (mb_r [3658, 3659, 3660, 262] rfl (fun _ h => h)) in_c_X13_given) (by decide +kernel)
set_option maxRecDepth 100000 in
theorem g_law_49 : GoodIn lw_tbl wq_c_X12_init := goodIn_sub in_c_X12_init (by decide +kernel)
set_option maxRecDepth 100000 in
theorem g_law_50 : GoodIn lw_tbl wq_c_X13_init := goodIn_sub in_c_X13_init (by decide +kernel)
set_option maxRecDepth 100000 in
theorem law_out {p : Program} {l : Launch} {e : Env} {s : State} {m : MethodId} {below : List Frame} {meth : Method} {c : Code} {b : Nat} {xs : Nat → Int32} {D : va_G} {cy : Nat → ClassId} {A : Nat → Prop} {L : Nat} (hst : l.stackTraces = false) (hx : p.tables.exec = Jvm.exec) (hb : c.code = code) (hr : meth.sig.returnType = ret) (hml : c.maxLocals = 8) (hown : s.vm.findClass R_law = some m.cls) (hts : ∀ w ∈ lw_tbl, w.before #[Value.ref b] s = true) (hX : va_X b L xs s s.heap) (hbl : b < s.heap.size) (hlocks : meth.locks = false) (hKK : kK D cy s) (hTK : tK A s) (hA : ∀ q, s.heap.size ≤ q → A q) (hbA : ¬ A b) (hAr : ∀ q, A q → s.heap.size ≤ q) {H : Heap} {locs : List Loc} {cells slots : Nat} (hc : cells ≤ 600002) (hs : slots ≤ 7302232) (hS : va_S A s.heap H locs) {i : Int32} (hcmp : Int32.ofNat L - 6 < i) {ls : Array Slot} (hl : lv_has ls 8 [(4, .int i), (0, .ref b)]) : W p l e room_1 s m #[Value.ref b] below meth c H locs cells slots (lw_Z below #[Value.ref b] s) (F0 m 23 ls []) := by
  refine lv_iload hx hb dL_law_23 (lv_at hl 0 rfl) ?_
  refine lv_aload_n hx hb dL_law_25 rfl (lv_at hl 1 rfl) ?_
  refine va_slen hx hb hX hbl hbA hS dL_law_26 ?_
  refine lv_bipush (v := 6) hx hb dL_law_27 (by decide) ?_
  refine lv_isub hx hb dL_law_29 ?_
  refine lv_icmp_gt (tgt := 1578) hx hb dL_law_30 (by decide) (fun _ => ?_) (fun c9 => absurd hcmp c9)
  refine lv_iconst (v := 1) hx hb dL_law_1578 (by decide) ?_
  refine va_forget (fun q hq => hAr _ (hS.2.2 q hq)) ?_
  refine W.widen (k := 600002) (n := 7302232) hc hs ?_
  exact lw_ret hx hb hr hlocks dL_law_1579
set_option maxRecDepth 100000 in
theorem law_tail {p : Program} {l : Launch} {e : Env} {s : State} {m : MethodId} {below : List Frame} {meth : Method} {c : Code} {b : Nat} {xs : Nat → Int32} {D : va_G} {cy : Nat → ClassId} {A : Nat → Prop} (hst : l.stackTraces = false) (hx : p.tables.exec = Jvm.exec) (hb : c.code = code) (hr : meth.sig.returnType = ret) (hml : c.maxLocals = 8) (hown : s.vm.findClass R_law = some m.cls) (hts : ∀ w ∈ lw_tbl, w.before #[Value.ref b] s = true) (hX : va_X b 6 xs s s.heap) (hbl : b < s.heap.size) (hlocks : meth.locks = false) (hKK : kK D cy s) (hTK : tK A s) (hA : ∀ q, s.heap.size ≤ q → A q) (hbA : ¬ A b) (hAr : ∀ q, A q → s.heap.size ≤ q) {H : Heap} {locs : List Loc} {cells slots : Nat} (hc : cells ≤ 600002) (hs : slots ≤ 7302232) (hS : va_S A s.heap H locs) {ls : Array Slot} (hl : lv_has ls 8 [(4, .int 6), (0, .ref b)]) : W p l e room_1 s m #[Value.ref b] below meth c H locs cells slots (lw_Z below #[Value.ref b] s) (F0 m 23 ls []) := law_out hst hx hb hr hml hown hts hX hbl hlocks hKK hTK hA hbA hAr hc hs hS (by decide) hl
set_option maxRecDepth 100000 in
theorem law_skip {p : Program} {l : Launch} {e : Env} {s : State} {m : MethodId} {below : List Frame} {meth : Method} {c : Code} {b : Nat} {xs : Nat → Int32} {D : va_G} {cy : Nat → ClassId} {A : Nat → Prop} (hst : l.stackTraces = false) (hx : p.tables.exec = Jvm.exec) (hb : c.code = code) (hr : meth.sig.returnType = ret) (hml : c.maxLocals = 8) (hown : s.vm.findClass R_law = some m.cls) (hts : ∀ w ∈ lw_tbl, w.before #[Value.ref b] s = true) (hX : va_X b 6 xs s s.heap) (hbl : b < s.heap.size) (hlocks : meth.locks = false) (hKK : kK D cy s) (hTK : tK A s) (hA : ∀ q, s.heap.size ≤ q → A q) (hbA : ¬ A b) (hAr : ∀ q, A q → s.heap.size ≤ q) {x1 x2 x3 : Nat} {H : Heap} {locs : List Loc} {cells slots : Nat} (hc : cells ≤ 600002) (hs : slots ≤ 7302232) (hS : va_S A s.heap H locs) {ls : Array Slot} (hl : lv_has ls 8 [(4, .int 0), (3, .ref x3), (2, .ref x2), (1, .ref x1), (0, .ref b)]) : W p l e room_1 s m #[Value.ref b] below meth c H locs cells slots (lw_Z below #[Value.ref b] s) (F0 m 1572 ls []) := by
  refine lv_iinc (v := 6) (lv' := [(4, .int 6), (3, .ref x3), (2, .ref x2), (1, .ref x1), (0, .ref b)]) hx hb dL_law_1572 hl (k := 0) rfl (by decide) (by decide) rfl (fun ls hl => ?_)
  refine lv_goto (tgt := 23) hx hb dL_law_1575 (by decide) ?_
  exact law_tail hst hx hb hr hml hown hts hX hbl hlocks hKK hTK hA hbA hAr hc hs hS (lv_sub hl [0, 4] rfl)
