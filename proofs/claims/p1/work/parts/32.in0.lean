theorem mb_c {big l : List Cond} {a : Cond} (h : a ∈ big) (t : ∀ w ∈ l, w ∈ big) : ∀ w ∈ a :: l, w ∈ big := fun w hw => (List.mem_cons.mp hw).elim (fun e => by rw [e]; exact h) (t w)
theorem mb_a {big a b : List Cond} (ha : ∀ w ∈ a, w ∈ big) (hb : ∀ w ∈ b, w ∈ big) : ∀ w ∈ a ++ b, w ∈ big := fun w hw => (List.mem_append.mp hw).elim (ha w) (hb w)
theorem mb_r {big l ws : List Cond} (ps : List Nat) (hp : ws = ps.filterMap (fun i => l[i]?)) (h : ∀ w ∈ l, w ∈ big) : ∀ w ∈ ws, w ∈ big := by
  intro w hw
  rw [hp] at hw
  obtain ⟨i, -, hi⟩ := List.mem_filterMap.mp hw
  exact h w (List.mem_of_getElem? hi)
set_option maxRecDepth 100000 in
set_option maxHeartbeats 4000000 in
theorem ux_J0 : ∀ w ∈ u_ws RJ0 TJ0 4, w ∈ lw_tbl := mb_r [1546, 1548, 1550, 1552] rfl (fun _ h => h)
set_option maxRecDepth 100000 in
set_option maxHeartbeats 4000000 in
theorem ux_J4 : ∀ w ∈ u_ws RJ4 TJ4 4, w ∈ lw_tbl := mb_r [1372, 1374, 1376, 1378] rfl (fun _ h => h)
set_option maxRecDepth 100000 in
set_option maxHeartbeats 4000000 in
theorem ux_Jx00060 : ∀ w ∈ u_ws RJx00060 TJx00060 6, w ∈ lw_tbl := mb_r [1570, 1571, 1572, 1573, 1574, 1575] rfl (fun _ h => h)
set_option maxRecDepth 100000 in
set_option maxHeartbeats 4000000 in
theorem ux_X0 : ∀ w ∈ u_ws RX0 TX0 18, w ∈ lw_tbl := mb_r [717, 719, 721, 723, 725, 727, 729, 731, 733, 735, 737, 739, 741, 743, 745, 747, 749, 751] rfl (fun _ h => h)
set_option maxRecDepth 100000 in
set_option maxHeartbeats 4000000 in
theorem ux_X1 : ∀ w ∈ u_ws RX1 TX1 7, w ∈ lw_tbl := mb_r [788, 790, 792, 794, 796, 798, 800] rfl (fun _ h => h)
set_option maxRecDepth 100000 in
set_option maxHeartbeats 4000000 in
theorem ux_X2 : ∀ w ∈ u_ws RX2 TX2 16, w ∈ lw_tbl := mb_r [366, 368, 370, 372, 374, 376, 378, 380, 382, 384, 386, 388, 390, 392, 394, 396] rfl (fun _ h => h)
set_option maxRecDepth 100000 in
set_option maxHeartbeats 4000000 in
theorem ux_X3 : ∀ w ∈ u_ws RX3 TX3 7, w ∈ lw_tbl := mb_r [650, 652, 654, 656, 658, 660, 662] rfl (fun _ h => h)
set_option maxRecDepth 100000 in
set_option maxHeartbeats 4000000 in
theorem ux_X4 : ∀ w ∈ u_ws RX4 TX4 20, w ∈ lw_tbl := mb_r [511, 513, 515, 517, 519, 521, 523, 525, 527, 529, 531, 533, 535, 537, 539, 541, 543, 545, 547, 549] rfl (fun _ h => h)
set_option maxRecDepth 100000 in
set_option maxHeartbeats 4000000 in
theorem ux_X5 : ∀ w ∈ u_ws RX5 TX5 2, w ∈ lw_tbl := mb_r [774, 776] rfl (fun _ h => h)
set_option maxRecDepth 100000 in
set_option maxHeartbeats 4000000 in
theorem ux_X6 : ∀ w ∈ u_ws RX6 TX6 14, w ∈ lw_tbl := mb_r [929, 931, 933, 935, 937, 939, 941, 943, 945, 947, 949, 951, 953, 955] rfl (fun _ h => h)
set_option maxRecDepth 100000 in
set_option maxHeartbeats 4000000 in
theorem ux_X7 : ∀ w ∈ u_ws RX7 TX7 19, w ∈ lw_tbl := mb_r [426, 428, 430, 432, 434, 436, 438, 440, 442, 444, 446, 448, 450, 452, 454, 456, 458, 460, 462] rfl (fun _ h => h)
set_option maxRecDepth 100000 in
set_option maxHeartbeats 4000000 in
theorem ux_X8 : ∀ w ∈ u_ws RX8 TX8 3, w ∈ lw_tbl := mb_r [836, 838, 840] rfl (fun _ h => h)
set_option maxRecDepth 100000 in
set_option maxHeartbeats 4000000 in
theorem ux_X9 : ∀ w ∈ u_ws RX9 TX9 17, w ∈ lw_tbl := mb_r [870, 872, 874, 876, 878, 880, 882, 884, 886, 888, 890, 892, 894, 896, 898, 900, 902] rfl (fun _ h => h)
set_option maxRecDepth 100000 in
set_option maxHeartbeats 4000000 in
theorem ux_X10 : ∀ w ∈ u_ws RX10 TX10 6, w ∈ lw_tbl := mb_r [307, 309, 311, 313, 315, 317] rfl (fun _ h => h)
set_option maxRecDepth 100000 in
set_option maxHeartbeats 4000000 in
theorem ux_X11 : ∀ w ∈ u_ws RX11 TX11 19, w ∈ lw_tbl := mb_r [594, 596, 598, 600, 602, 604, 606, 608, 610, 612, 614, 616, 618, 620, 622, 624, 626, 628, 630] rfl (fun _ h => h)
set_option maxRecDepth 100000 in
set_option maxHeartbeats 4000000 in
theorem ux_X12 : ∀ w ∈ u_ws RX12 TX12 18, w ∈ lw_tbl := mb_r [978, 980, 982, 984, 986, 988, 990, 992, 994, 996, 998, 1000, 1002, 1004, 1006, 1008, 1010, 1012] rfl (fun _ h => h)
set_option maxRecDepth 100000 in
set_option maxHeartbeats 4000000 in
theorem ux_X13 : ∀ w ∈ u_ws RX13 TX13 126, w ∈ lw_tbl := mb_r [2693, 2695, 2697, 2699, 2701, 2703, 2705, 2707, 2709, 2711, 2713, 2715, 2717, 2719, 2721, 2723, 2725, 2727, 2729, 2731, 2733, 2735, 2737, 2739, 2741, 2743, 2745, 2747, 2749, 2751, 2753, 2755, 2757, 2759, 2761, 2763, 2765, 2767, 2769, 2771, 2773, 2775, 2777, 2779, 2781, 2783, 2785, 2787, 2789, 2791, 2793, 2795, 2797, 2799, 2801, 2803, 2805, 2807, 2809, 2811, 2813, 2815, 2817, 2819, 2821, 2823, 2825, 2827, 2829, 2831, 2833, 2835, 2837, 2839, 2841, 2843, 2845, 2847, 2849, 2851, 2853, 2855, 2857, 2859, 2861, 2863, 2865, 2867, 2869, 2871, 2873, 2875, 2877, 2879, 2881, 2883, 2885, 2887, 2889, 2891, 2893, 2895, 2897, 2899, 2901, 2903, 2905, 2907, 2909, 2911, 2913, 2915, 2917, 2919, 2921, 2923, 2925, 2927, 2929, 2931, 2933, 2935, 2937, 2939, 2941, 2943] rfl (fun _ h => h)
set_option maxRecDepth 100000 in
theorem tx_0 : ∀ w ∈ (vx_atS RX12 122 "java/lang/IllegalArgumentException" ["java/lang/RuntimeException", "java/lang/Exception"]).filter goodWord, w ∈ lw_tbl := by decide +kernel
set_option maxRecDepth 100000 in
theorem tx_1 : ∀ w ∈ (vx_atS RX12 158 "java/lang/IndexOutOfBoundsException" ["java/lang/RuntimeException", "java/lang/Exception"]).filter goodWord, w ∈ lw_tbl := by decide +kernel
set_option maxRecDepth 100000 in
theorem tx_2 : ∀ w ∈ (vx_atS RX12 166 "java/lang/IllegalStateException" ["java/lang/RuntimeException", "java/lang/Exception"]).filter goodWord, w ∈ lw_tbl := by decide +kernel
set_option maxRecDepth 100000 in
theorem tx_3 : ∀ w ∈ (vx_atS RX7 120 "java/lang/IllegalStateException" ["java/lang/RuntimeException", "java/lang/Exception"]).filter goodWord, w ∈ lw_tbl := by decide +kernel
