set_option maxRecDepth 100000 in
theorem g_law_0 : GoodIn lw_tbl (va_wsS RL 94 yL_feed wq_c_L_feed) := goodIn_sub (mb_a (mb_r [1660, 1661, 242] rfl (fun _ h => h)) in_c_L_feed) (by decide +kernel)
set_option maxRecDepth 100000 in
theorem g_law_1 : GoodIn lw_tbl (wsV RL 99 RX13 yX13_feed wq_c_X13_feed) := goodIn_sub (mb_a (mb_r [2901, 2902, 2903, 257] rfl (fun _ h => h)) in_c_X13_feed) (by decide +kernel)
set_option maxRecDepth 100000 in
theorem g_law_2 : GoodIn lw_tbl (va_wsS RL 103 yL_end wq_c_L_end) := goodIn_sub (mb_a (mb_r [1694, 1695, 242] rfl (fun _ h => h)) in_c_L_end) (by decide +kernel)
set_option maxRecDepth 100000 in
theorem g_law_3 : GoodIn lw_tbl (wsV RL 106 RX13 yX13_end wq_c_X13_end) := goodIn_sub (mb_a (mb_r [2905, 2906, 2907, 257] rfl (fun _ h => h)) in_c_X13_end) (by decide +kernel)
set_option maxRecDepth 100000 in
theorem g_law_4 : GoodIn lw_tbl (wsV RL 107 RX12 yX12_program wq_c_X12_program) := goodIn_sub (mb_a (mb_r [996, 997, 998, 243] rfl (fun _ h => h)) in_c_X12_program) (by decide +kernel)
set_option maxRecDepth 100000 in
theorem g_law_5 : GoodIn lw_tbl (wsV RL 110 RX13 yX13_program wq_c_X13_program) := goodIn_sub (mb_a (mb_r [2909, 2910, 2911, 257] rfl (fun _ h => h)) in_c_X13_program) (by decide +kernel)
set_option maxRecDepth 100000 in
theorem g_law_6 : GoodIn lw_tbl (wsV RL 111 RX12 yX12_fault wq_c_X12_fault) := goodIn_sub (mb_a (mb_r [1652, 1653, 1654, 243] rfl (fun _ h => h)) in_c_X12_fault) (by decide +kernel)
set_option maxRecDepth 100000 in
theorem g_law_7 : GoodIn lw_tbl (wsV RL 114 RX13 yX13_fault wq_c_X13_fault) := goodIn_sub (mb_a (mb_r [3163, 3164, 3165, 257] rfl (fun _ h => h)) in_c_X13_fault) (by decide +kernel)
set_option maxRecDepth 100000 in
theorem g_law_8 : GoodIn lw_tbl (va_wsS RL 115 yL_count wq_c_L_count) := goodIn_sub (mb_a (mb_r [1705, 1706, 242] rfl (fun _ h => h)) in_c_L_count) (by decide +kernel)
set_option maxRecDepth 100000 in
theorem g_law_9 : GoodIn lw_tbl (wsV RL 118 RX13 yX13_count wq_c_X13_count) := goodIn_sub (mb_a (mb_r [3288, 3289, 3290, 257] rfl (fun _ h => h)) in_c_X13_count) (by decide +kernel)
set_option maxRecDepth 100000 in
theorem g_law_10 : GoodIn lw_tbl (va_wsS RL 119 yL_explore wq_c_L_explore) := goodIn_sub (mb_a (mb_r [1738, 1739, 242] rfl (fun _ h => h)) in_c_L_explore) (by decide +kernel)
set_option maxRecDepth 100000 in
theorem g_law_11 : GoodIn lw_tbl (wsV RL 121 RX13 yX13_explore wq_c_X13_explore) := goodIn_sub (mb_a (mb_r [3167, 3168, 3169, 257] rfl (fun _ h => h)) in_c_X13_explore) (by decide +kernel)
set_option maxRecDepth 100000 in
theorem g_law_12 : GoodIn lw_tbl (va_wsS RL 122 yL_state wq_c_L_state) := goodIn_sub (mb_a (mb_r [1940, 1941, 242] rfl (fun _ h => h)) in_c_L_state) (by decide +kernel)
set_option maxRecDepth 100000 in
theorem g_law_13 : GoodIn lw_tbl (wsV RL 125 RX13 yX13_state wq_c_X13_state) := goodIn_sub (mb_a (mb_r [3292, 3293, 3294, 257] rfl (fun _ h => h)) in_c_X13_state) (by decide +kernel)
set_option maxRecDepth 100000 in
theorem g_law_14 : GoodIn lw_tbl (va_wsS RL 126 yL_value wq_c_L_value) := goodIn_sub (mb_a (mb_r [1970, 1971, 242] rfl (fun _ h => h)) in_c_L_value) (by decide +kernel)
set_option maxRecDepth 100000 in
theorem g_law_15 : GoodIn lw_tbl (wsV RL 129 RX13 yX13_value wq_c_X13_value) := goodIn_sub (mb_a (mb_r [3304, 3305, 3306, 257] rfl (fun _ h => h)) in_c_X13_value) (by decide +kernel)
set_option maxRecDepth 100000 in
theorem g_law_16 : GoodIn lw_tbl (va_wsS RL 130 yL_next wq_c_L_next) := goodIn_sub (mb_a (mb_r [1993, 1994, 242] rfl (fun _ h => h)) in_c_L_next) (by decide +kernel)
set_option maxRecDepth 100000 in
theorem g_law_17 : GoodIn lw_tbl (wsV RL 132 RX13 yX13_next wq_c_X13_next) := goodIn_sub (mb_a (mb_r [3308, 3309, 3310, 257] rfl (fun _ h => h)) in_c_X13_next) (by decide +kernel)
set_option maxRecDepth 100000 in
theorem g_law_18 : GoodIn lw_tbl (va_wsS RL 133 yL_ending wq_c_L_ending) := goodIn_sub (mb_a (mb_r [2001, 2002, 242] rfl (fun _ h => h)) in_c_L_ending) (by decide +kernel)
set_option maxRecDepth 100000 in
theorem g_law_19 : GoodIn lw_tbl (wsV RL 135 RX13 yX13_ending wq_c_X13_ending) := goodIn_sub (mb_a (mb_r [3312, 3313, 3314, 257] rfl (fun _ h => h)) in_c_X13_ending) (by decide +kernel)
set_option maxRecDepth 100000 in
theorem g_law_20 : GoodIn lw_tbl (va_wsS RL 136 yL_decide wq_c_L_decide) := goodIn_sub (mb_a (mb_r [2015, 2016, 242] rfl (fun _ h => h)) in_c_L_decide) (by decide +kernel)
set_option maxRecDepth 100000 in
theorem g_law_21 : GoodIn lw_tbl (wsV RL 138 RX13 yX13_decide wq_c_X13_decide) := goodIn_sub (mb_a (mb_r [3316, 3317, 3318, 257] rfl (fun _ h => h)) in_c_X13_decide) (by decide +kernel)
set_option maxRecDepth 100000 in
theorem g_law_22 : GoodIn lw_tbl (va_wsS RL 139 yL_decided wq_c_L_decided) := goodIn_sub (mb_a (mb_r [2023, 2024, 242] rfl (fun _ h => h)) in_c_L_decided) (by decide +kernel)
set_option maxRecDepth 100000 in
theorem g_law_23 : GoodIn lw_tbl (wsV RL 141 RX13 yX13_decided wq_c_X13_decided) := goodIn_sub (mb_a (mb_r [3320, 3321, 3322, 257] rfl (fun _ h => h)) in_c_X13_decided) (by decide +kernel)
set_option maxRecDepth 100000 in
theorem g_law_24 : GoodIn lw_tbl (va_wsS RL 142 yL_best wq_c_L_best) := goodIn_sub (mb_a (mb_r [2031, 2032, 242] rfl (fun _ h => h)) in_c_L_best) (by decide +kernel)
set_option maxRecDepth 100000 in
theorem g_law_25 : GoodIn lw_tbl (wsV RL 145 RX13 yX13_best wq_c_X13_best) := goodIn_sub (mb_a (mb_r [3549, 3550, 3551, 257] rfl (fun _ h => h)) in_c_X13_best) (by decide +kernel)
set_option maxRecDepth 100000 in
theorem g_law_26 : GoodIn lw_tbl (va_wsS RL 146 yL_solve wq_c_L_solve) := goodIn_sub (mb_a (mb_r [2215, 2216, 242] rfl (fun _ h => h)) in_c_L_solve) (by decide +kernel)
set_option maxRecDepth 100000 in
theorem g_law_27 : GoodIn lw_tbl (wsV RL 148 RX13 yX13_solve wq_c_X13_solve) := goodIn_sub (mb_a (mb_r [3324, 3325, 3326, 257] rfl (fun _ h => h)) in_c_X13_solve) (by decide +kernel)
set_option maxRecDepth 100000 in
theorem g_law_28 : GoodIn lw_tbl (va_wsS RL 149 yL_show wq_c_L_show) := goodIn_sub (mb_a (mb_r [2300, 2301, 242] rfl (fun _ h => h)) in_c_L_show) (by decide +kernel)
set_option maxRecDepth 100000 in
theorem g_law_29 : GoodIn lw_tbl (wsV RL 151 RX13 yX13_show wq_c_X13_show) := goodIn_sub (mb_a (mb_r [3464, 3465, 3466, 257] rfl (fun _ h => h)) in_c_X13_show) (by decide +kernel)
set_option maxRecDepth 100000 in
theorem g_law_30 : GoodIn lw_tbl (va_wsS RL 152 yL_size wq_c_L_size) := goodIn_sub (mb_a (mb_r [2374, 2375, 242] rfl (fun _ h => h)) in_c_L_size) (by decide +kernel)
set_option maxRecDepth 100000 in
theorem g_law_31 : GoodIn lw_tbl (wsV RL 154 RX13 yX13_size wq_c_X13_size) := goodIn_sub (mb_a (mb_r [3499, 3500, 3501, 257] rfl (fun _ h => h)) in_c_X13_size) (by decide +kernel)
set_option maxRecDepth 100000 in
theorem g_law_32 : GoodIn lw_tbl (va_wsS RL 155 yL_limb wq_c_L_limb) := goodIn_sub (mb_a (mb_r [2387, 2388, 242] rfl (fun _ h => h)) in_c_L_limb) (by decide +kernel)
set_option maxRecDepth 100000 in
theorem g_law_33 : GoodIn lw_tbl (wsV RL 157 RX13 yX13_limb wq_c_X13_limb) := goodIn_sub (mb_a (mb_r [3507, 3508, 3509, 257] rfl (fun _ h => h)) in_c_X13_limb) (by decide +kernel)
set_option maxRecDepth 100000 in
theorem g_law_34 : GoodIn lw_tbl (va_wsS RL 158 yL_tell wq_c_L_tell) := goodIn_sub (mb_a (mb_r [2399, 2400, 242] rfl (fun _ h => h)) in_c_L_tell) (by decide +kernel)
set_option maxRecDepth 100000 in
theorem g_law_35 : GoodIn lw_tbl (wsV RL 160 RX13 yX13_tell wq_c_X13_tell) := goodIn_sub (mb_a (mb_r [3511, 3512, 3513, 257] rfl (fun _ h => h)) in_c_X13_tell) (by decide +kernel)
set_option maxRecDepth 100000 in
theorem g_law_36 : GoodIn lw_tbl (wsV RL 161 RX12 yX12_forget wq_c_X12_forget) := goodIn_sub (mb_a (mb_r [1656, 1657, 1658, 243] rfl (fun _ h => h)) in_c_X12_forget) (by decide +kernel)
set_option maxRecDepth 100000 in
theorem g_law_37 : GoodIn lw_tbl (wsV RL 164 RX13 yX13_forget wq_c_X13_forget) := goodIn_sub (mb_a (mb_r [3515, 3516, 3517, 257] rfl (fun _ h => h)) in_c_X13_forget) (by decide +kernel)
set_option maxRecDepth 100000 in
theorem g_law_38 : GoodIn lw_tbl (va_wsS RL 167 yL_play wq_c_L_play) := goodIn_sub (mb_a (mb_r [2407, 2408, 242] rfl (fun _ h => h)) in_c_L_play) (by decide +kernel)
set_option maxRecDepth 100000 in
theorem g_law_39 : GoodIn lw_tbl (wsV RL 170 RX13 yX13_play wq_c_X13_play) := goodIn_sub (mb_a (mb_r [3519, 3520, 3521, 257] rfl (fun _ h => h)) in_c_X13_play) (by decide +kernel)
set_option maxRecDepth 100000 in
theorem g_law_40 : GoodIn lw_tbl (va_wsS RL 171 yL_walk wq_c_L_walk) := goodIn_sub (mb_a (mb_r [2448, 2449, 242] rfl (fun _ h => h)) in_c_L_walk) (by decide +kernel)
set_option maxRecDepth 100000 in
theorem g_law_41 : GoodIn lw_tbl (wsV RL 173 RX13 yX13_walk wq_c_X13_walk) := goodIn_sub (mb_a (mb_r [3541, 3542, 3543, 257] rfl (fun _ h => h)) in_c_X13_walk) (by decide +kernel)
set_option maxRecDepth 100000 in
theorem g_law_42 : GoodIn lw_tbl (va_wsS RL 174 yL_played wq_c_L_played) := goodIn_sub (mb_a (mb_r [2455, 2456, 242] rfl (fun _ h => h)) in_c_L_played) (by decide +kernel)
set_option maxRecDepth 100000 in
theorem g_law_43 : GoodIn lw_tbl (wsV RL 176 RX13 yX13_played wq_c_X13_played) := goodIn_sub (mb_a (mb_r [3545, 3546, 3547, 257] rfl (fun _ h => h)) in_c_X13_played) (by decide +kernel)
set_option maxRecDepth 100000 in
theorem g_law_44 : GoodIn lw_tbl (va_wsS RL 177 yL_independent wq_c_L_independent) := goodIn_sub (mb_a (mb_r [2463, 2464, 242] rfl (fun _ h => h)) in_c_L_independent) (by decide +kernel)
set_option maxRecDepth 100000 in
theorem g_law_45 : GoodIn lw_tbl (wsV RL 179 RX13 yX13_independent wq_c_X13_independent) := goodIn_sub (mb_a (mb_r [3577, 3578, 3579, 257] rfl (fun _ h => h)) in_c_X13_independent) (by decide +kernel)
set_option maxRecDepth 100000 in
theorem g_law_46 : GoodIn lw_tbl (va_wsS RL 180 yL_given wq_c_L_given) := goodIn_sub (mb_a (mb_r [2497, 2498, 242] rfl (fun _ h => h)) in_c_L_given) (by decide +kernel)
set_option maxRecDepth 100000 in
theorem g_law_47 : GoodIn lw_tbl (wsV RL 182 RX13 yX13_given wq_c_X13_given) := goodIn_sub (mb_a (mb_r [3613, 3614, 3615, 257] rfl (fun _ h => h)) in_c_X13_given) (by decide +kernel)
