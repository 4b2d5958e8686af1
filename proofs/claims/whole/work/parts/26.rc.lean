/-! constants, fields, rows, calls of the reference -/
theorem nb_0 : nb 0 := Or.inl rfl
theorem nb_1 : nb 1 := Or.inr rfl
theorem s_k {C : rCx} {d : Nat} {r : dM} {pc : Nat} {L L' : List (Option Value)} {st : List Value} {σ : rS} {Q : Option Value → rS → Prop} (K : wG C d r pc L' st σ Q) (hs : lsub L' L) : wG C d r pc L st σ Q := s_w hs K
theorem kb_m3 : (Int8.ofInt (-3)).toInt32 = (-3 : Int32) := by decide
theorem kb_m2 : (Int8.ofInt (-2)).toInt32 = (-2 : Int32) := by decide
theorem kb_6 : (Int8.ofInt (6)).toInt32 = (6 : Int32) := by decide
theorem kb_7 : (Int8.ofInt (7)).toInt32 = (7 : Int32) := by decide
theorem kb_8 : (Int8.ofInt (8)).toInt32 = (8 : Int32) := by decide
theorem kb_9 : (Int8.ofInt (9)).toInt32 = (9 : Int32) := by decide
theorem kb_10 : (Int8.ofInt (10)).toInt32 = (10 : Int32) := by decide
theorem kb_11 : (Int8.ofInt (11)).toInt32 = (11 : Int32) := by decide
theorem kb_12 : (Int8.ofInt (12)).toInt32 = (12 : Int32) := by decide
theorem kb_13 : (Int8.ofInt (13)).toInt32 = (13 : Int32) := by decide
theorem kb_14 : (Int8.ofInt (14)).toInt32 = (14 : Int32) := by decide
theorem kb_15 : (Int8.ofInt (15)).toInt32 = (15 : Int32) := by decide
theorem kb_16 : (Int8.ofInt (16)).toInt32 = (16 : Int32) := by decide
theorem kb_17 : (Int8.ofInt (17)).toInt32 = (17 : Int32) := by decide
theorem kb_18 : (Int8.ofInt (18)).toInt32 = (18 : Int32) := by decide
theorem kb_19 : (Int8.ofInt (19)).toInt32 = (19 : Int32) := by decide
theorem kb_20 : (Int8.ofInt (20)).toInt32 = (20 : Int32) := by decide
theorem kb_21 : (Int8.ofInt (21)).toInt32 = (21 : Int32) := by decide
theorem kb_23 : (Int8.ofInt (23)).toInt32 = (23 : Int32) := by decide
theorem kb_24 : (Int8.ofInt (24)).toInt32 = (24 : Int32) := by decide
theorem kb_25 : (Int8.ofInt (25)).toInt32 = (25 : Int32) := by decide
theorem kb_26 : (Int8.ofInt (26)).toInt32 = (26 : Int32) := by decide
theorem kb_31 : (Int8.ofInt (31)).toInt32 = (31 : Int32) := by decide
theorem kb_32 : (Int8.ofInt (32)).toInt32 = (32 : Int32) := by decide
theorem kb_33 : (Int8.ofInt (33)).toInt32 = (33 : Int32) := by decide
theorem kb_34 : (Int8.ofInt (34)).toInt32 = (34 : Int32) := by decide
theorem kb_35 : (Int8.ofInt (35)).toInt32 = (35 : Int32) := by decide
theorem kb_36 : (Int8.ofInt (36)).toInt32 = (36 : Int32) := by decide
theorem kb_37 : (Int8.ofInt (37)).toInt32 = (37 : Int32) := by decide
theorem kb_38 : (Int8.ofInt (38)).toInt32 = (38 : Int32) := by decide
theorem kb_40 : (Int8.ofInt (40)).toInt32 = (40 : Int32) := by decide
theorem kb_41 : (Int8.ofInt (41)).toInt32 = (41 : Int32) := by decide
theorem kb_42 : (Int8.ofInt (42)).toInt32 = (42 : Int32) := by decide
theorem kb_43 : (Int8.ofInt (43)).toInt32 = (43 : Int32) := by decide
theorem kb_44 : (Int8.ofInt (44)).toInt32 = (44 : Int32) := by decide
theorem kb_45 : (Int8.ofInt (45)).toInt32 = (45 : Int32) := by decide
theorem kb_47 : (Int8.ofInt (47)).toInt32 = (47 : Int32) := by decide
theorem kb_48 : (Int8.ofInt (48)).toInt32 = (48 : Int32) := by decide
theorem kb_56 : (Int8.ofInt (56)).toInt32 = (56 : Int32) := by decide
theorem kb_57 : (Int8.ofInt (57)).toInt32 = (57 : Int32) := by decide
theorem kb_58 : (Int8.ofInt (58)).toInt32 = (58 : Int32) := by decide
theorem kb_59 : (Int8.ofInt (59)).toInt32 = (59 : Int32) := by decide
theorem kb_60 : (Int8.ofInt (60)).toInt32 = (60 : Int32) := by decide
theorem kb_61 : (Int8.ofInt (61)).toInt32 = (61 : Int32) := by decide
theorem kb_62 : (Int8.ofInt (62)).toInt32 = (62 : Int32) := by decide
theorem kb_63 : (Int8.ofInt (63)).toInt32 = (63 : Int32) := by decide
theorem kb_64 : (Int8.ofInt (64)).toInt32 = (64 : Int32) := by decide
theorem kb_65 : (Int8.ofInt (65)).toInt32 = (65 : Int32) := by decide
theorem kb_80 : (Int8.ofInt (80)).toInt32 = (80 : Int32) := by decide
theorem kb_90 : (Int8.ofInt (90)).toInt32 = (90 : Int32) := by decide
theorem kb_91 : (Int8.ofInt (91)).toInt32 = (91 : Int32) := by decide
theorem kb_93 : (Int8.ofInt (93)).toInt32 = (93 : Int32) := by decide
theorem kb_95 : (Int8.ofInt (95)).toInt32 = (95 : Int32) := by decide
theorem kb_97 : (Int8.ofInt (97)).toInt32 = (97 : Int32) := by decide
theorem kb_98 : (Int8.ofInt (98)).toInt32 = (98 : Int32) := by decide
theorem kb_99 : (Int8.ofInt (99)).toInt32 = (99 : Int32) := by decide
theorem kb_100 : (Int8.ofInt (100)).toInt32 = (100 : Int32) := by decide
theorem kb_101 : (Int8.ofInt (101)).toInt32 = (101 : Int32) := by decide
theorem kb_102 : (Int8.ofInt (102)).toInt32 = (102 : Int32) := by decide
theorem kb_103 : (Int8.ofInt (103)).toInt32 = (103 : Int32) := by decide
theorem kb_104 : (Int8.ofInt (104)).toInt32 = (104 : Int32) := by decide
theorem kb_105 : (Int8.ofInt (105)).toInt32 = (105 : Int32) := by decide
theorem kb_107 : (Int8.ofInt (107)).toInt32 = (107 : Int32) := by decide
theorem kb_108 : (Int8.ofInt (108)).toInt32 = (108 : Int32) := by decide
theorem kb_109 : (Int8.ofInt (109)).toInt32 = (109 : Int32) := by decide
theorem kb_110 : (Int8.ofInt (110)).toInt32 = (110 : Int32) := by decide
theorem kb_111 : (Int8.ofInt (111)).toInt32 = (111 : Int32) := by decide
theorem kb_112 : (Int8.ofInt (112)).toInt32 = (112 : Int32) := by decide
theorem kb_114 : (Int8.ofInt (114)).toInt32 = (114 : Int32) := by decide
theorem kb_115 : (Int8.ofInt (115)).toInt32 = (115 : Int32) := by decide
theorem kb_116 : (Int8.ofInt (116)).toInt32 = (116 : Int32) := by decide
theorem kb_117 : (Int8.ofInt (117)).toInt32 = (117 : Int32) := by decide
theorem kb_118 : (Int8.ofInt (118)).toInt32 = (118 : Int32) := by decide
theorem kb_119 : (Int8.ofInt (119)).toInt32 = (119 : Int32) := by decide
theorem kb_122 : (Int8.ofInt (122)).toInt32 = (122 : Int32) := by decide
theorem kb_123 : (Int8.ofInt (123)).toInt32 = (123 : Int32) := by decide
theorem kb_124 : (Int8.ofInt (124)).toInt32 = (124 : Int32) := by decide
theorem kb_125 : (Int8.ofInt (125)).toInt32 = (125 : Int32) := by decide
theorem kb_126 : (Int8.ofInt (126)).toInt32 = (126 : Int32) := by decide
theorem ki_m1 : Int32.ofInt (-1) = (-1 : Int32) := by decide
theorem ki_0 : Int32.ofInt (0) = (0 : Int32) := by decide
theorem ki_1 : Int32.ofInt (1) = (1 : Int32) := by decide
theorem ki_2 : Int32.ofInt (2) = (2 : Int32) := by decide
theorem ki_3 : Int32.ofInt (3) = (3 : Int32) := by decide
theorem ki_4 : Int32.ofInt (4) = (4 : Int32) := by decide
theorem ki_5 : Int32.ofInt (5) = (5 : Int32) := by decide
theorem kl_0 : Int64.ofNat 0 = (0 : Int64) := by decide
theorem kl_1 : Int64.ofNat 1 = (1 : Int64) := by decide
theorem ks_130 : (Int16.ofInt (130)).toInt32 = (130 : Int32) := by decide
theorem ks_143 : (Int16.ofInt (143)).toInt32 = (143 : Int32) := by decide
theorem ks_150 : (Int16.ofInt (150)).toInt32 = (150 : Int32) := by decide
theorem ks_200 : (Int16.ofInt (200)).toInt32 = (200 : Int32) := by decide
theorem ks_255 : (Int16.ofInt (255)).toInt32 = (255 : Int32) := by decide
theorem ks_256 : (Int16.ofInt (256)).toInt32 = (256 : Int32) := by decide
theorem ks_257 : (Int16.ofInt (257)).toInt32 = (257 : Int32) := by decide
theorem ks_258 : (Int16.ofInt (258)).toInt32 = (258 : Int32) := by decide
theorem ks_259 : (Int16.ofInt (259)).toInt32 = (259 : Int32) := by decide
theorem ks_260 : (Int16.ofInt (260)).toInt32 = (260 : Int32) := by decide
theorem ks_300 : (Int16.ofInt (300)).toInt32 = (300 : Int32) := by decide
theorem ks_400 : (Int16.ofInt (400)).toInt32 = (400 : Int32) := by decide
theorem ks_1000 : (Int16.ofInt (1000)).toInt32 = (1000 : Int32) := by decide
theorem ks_1001 : (Int16.ofInt (1001)).toInt32 = (1001 : Int32) := by decide
theorem ks_1024 : (Int16.ofInt (1024)).toInt32 = (1024 : Int32) := by decide
theorem ks_1056 : (Int16.ofInt (1056)).toInt32 = (1056 : Int32) := by decide
theorem ks_1088 : (Int16.ofInt (1088)).toInt32 = (1088 : Int32) := by decide
theorem ks_1152 : (Int16.ofInt (1152)).toInt32 = (1152 : Int32) := by decide
theorem ks_2000 : (Int16.ofInt (2000)).toInt32 = (2000 : Int32) := by decide
theorem ks_20000 : (Int16.ofInt (20000)).toInt32 = (20000 : Int32) := by decide
theorem cl_677 : (tCL 16).lookup 677 = some (65535 : Int64) := by decide +kernel
theorem cl_840 : (tCL 16).lookup 840 = some (6364136223846793005 : Int64) := by decide +kernel
theorem cl_842 : (tCL 16).lookup 842 = some (1442695040888963407 : Int64) := by decide +kernel
theorem cn_13 : (tCN 16).lookup 13 = some (65536 : Int32) := by decide +kernel
theorem cn_494 : (tCN 16).lookup 494 = some (65537 : Int32) := by decide +kernel
theorem cn_584 : (tCN 16).lookup 584 = some (1000000 : Int32) := by decide +kernel
theorem cn_676 : (tCN 16).lookup 676 = some (40000 : Int32) := by decide +kernel
theorem cn_679 : (tCN 16).lookup 679 = some (65535 : Int32) := by decide +kernel
theorem cn_686 : (tCN 16).lookup 686 = some (32768 : Int32) := by decide +kernel
theorem cn_733 : (tCN 16).lookup 733 = some (160000 : Int32) := by decide +kernel
theorem cn_734 : (tCN 16).lookup 734 = some (200000 : Int32) := by decide +kernel
theorem cn_735 : (tCN 16).lookup 735 = some (240000 : Int32) := by decide +kernel
theorem cn_736 : (tCN 16).lookup 736 = some (280000 : Int32) := by decide +kernel
theorem rt_1 : rT 1 = some (1, 65536) := by decide +kernel
theorem rt_5 : rT 5 = some (1, 131074) := by decide +kernel
theorem rt_6 : rT 6 = some (0, 131074) := by decide +kernel
theorem rt_7 : rT 7 = some (0, 131074) := by decide +kernel
theorem rt_8 : rT 8 = some (2, 131074) := by decide +kernel
theorem rt_9 : rT 9 = some (0, 131074) := by decide +kernel
theorem rt_20 : rT 20 = some (0, 10) := by decide +kernel
theorem rt_21 : rT 21 = some (0, 10) := by decide +kernel
theorem rt_22 : rT 22 = some (0, 3) := by decide +kernel
theorem rt_23 : rT 23 = some (0, 3) := by decide +kernel
theorem rt_24 : rT 24 = some (0, 3) := by decide +kernel
theorem rt_25 : rT 25 = some (0, 10) := by decide +kernel
theorem rt_26 : rT 26 = some (0, 10) := by decide +kernel
theorem rt_27 : rT 27 = some (0, 10) := by decide +kernel
theorem rt_28 : rT 28 = some (0, 80) := by decide +kernel
theorem rt_29 : rT 29 = some (0, 10) := by decide +kernel
theorem rt_30 : rT 30 = some (0, 150) := by decide +kernel
theorem rt_31 : rT 31 = some (0, 150) := by decide +kernel
theorem rt_32 : rT 32 = some (0, 150) := by decide +kernel
theorem rt_33 : rT 33 = some (0, 150) := by decide +kernel
theorem rt_34 : rT 34 = some (0, 150) := by decide +kernel
theorem rt_35 : rT 35 = some (0, 150) := by decide +kernel
theorem rt_36 : rT 36 = some (0, 150) := by decide +kernel
theorem rt_37 : rT 37 = some (0, 150) := by decide +kernel
theorem rt_38 : rT 38 = some (0, 150) := by decide +kernel
theorem rt_39 : rT 39 = some (0, 131074) := by decide +kernel
theorem rt_43 : rT 43 = some (0, 64) := by decide +kernel
theorem rt_44 : rT 44 = some (0, 64) := by decide +kernel
theorem rt_45 : rT 45 = some (3, 64) := by decide +kernel
theorem rt_50 : rT 50 = some (0, 66000) := by decide +kernel
theorem rt_51 : rT 51 = some (0, 66000) := by decide +kernel
theorem rt_52 : rT 52 = some (0, 66000) := by decide +kernel
theorem rt_54 : rT 54 = some (0, 2048) := by decide +kernel
theorem rt_56 : rT 56 = some (0, 8) := by decide +kernel
theorem rt_57 : rT 57 = some (0, 34) := by decide +kernel
theorem rt_59 : rT 59 = some (0, 12) := by decide +kernel
theorem rt_60 : rT 60 = some (0, 96) := by decide +kernel
theorem rt_64 : rT 64 = some (0, 64) := by decide +kernel
theorem rt_65 : rT 65 = some (0, 64) := by decide +kernel
theorem rt_68 : rT 68 = some (0, 4) := by decide +kernel
theorem rt_73 : rT 73 = some (0, 143000) := by decide +kernel
theorem rt_74 : rT 74 = some (0, 1000) := by decide +kernel
theorem rt_75 : rT 75 = some (0, 35000) := by decide +kernel
theorem rt_76 : rT 76 = some (0, 1001) := by decide +kernel
theorem rt_77 : rT 77 = some (0, 20000) := by decide +kernel
theorem rt_78 : rT 78 = some (0, 20000) := by decide +kernel
theorem rt_79 : rT 79 = some (0, 20000) := by decide +kernel
theorem rt_80 : rT 80 = some (0, 1000) := by decide +kernel
theorem rt_81 : rT 81 = some (3, 1000) := by decide +kernel
theorem rt_82 : rT 82 = some (0, 1000) := by decide +kernel
theorem rt_83 : rT 83 = some (0, 1000) := by decide +kernel
theorem rt_84 : rT 84 = some (0, 143) := by decide +kernel
theorem rt_86 : rT 86 = some (2, 16000) := by decide +kernel
theorem rt_87 : rT 87 = some (3, 1000) := by decide +kernel
theorem rt_90 : rT 90 = some (0, 1200000) := by decide +kernel
theorem rt_91 : rT 91 = some (0, 30) := by decide +kernel
theorem rt_93 : rT 93 = some (0, 566000) := by decide +kernel
theorem rt_95 : rT 95 = some (3, 1000) := by decide +kernel
theorem rt_96 : rT 96 = some (3, 1000) := by decide +kernel
theorem rt_97 : rT 97 = some (0, 1000) := by decide +kernel
theorem rt_98 : rT 98 = some (0, 1000) := by decide +kernel
theorem rt_99 : rT 99 = some (0, 1000) := by decide +kernel
theorem rt_102 : rT 102 = some (0, 34000) := by decide +kernel
theorem rt_105 : rT 105 = some (0, 200) := by decide +kernel
theorem rt_111 : rT 111 = some (0, 34) := by decide +kernel
theorem rt_115 : rT 115 = some (0, 34000) := by decide +kernel
theorem rt_116 : rT 116 = some (0, 1000) := by decide +kernel
theorem rt_117 : rT 117 = some (0, 34000) := by decide +kernel
theorem rt_118 : rT 118 = some (0, 1000) := by decide +kernel
theorem rt_119 : rT 119 = some (0, 1000) := by decide +kernel
theorem rt_120 : rT 120 = some (3, 1000) := by decide +kernel
theorem rt_121 : rT 121 = some (0, 1000) := by decide +kernel
theorem rt_122 : rT 122 = some (0, 1000) := by decide +kernel
theorem rt_123 : rT 123 = some (0, 1000) := by decide +kernel
theorem fl_1 : (tFL 16).lookup 1 = some (16, 0) := by decide +kernel
theorem fl_14 : (tFL 16).lookup 14 = some (16, 1) := by decide +kernel
theorem fl_19 : (tFL 16).lookup 19 = some (16, 5) := by decide +kernel
theorem fl_22 : (tFL 16).lookup 22 = some (16, 6) := by decide +kernel
theorem fl_26 : (tFL 16).lookup 26 = some (16, 7) := by decide +kernel
theorem fl_29 : (tFL 16).lookup 29 = some (16, 8) := by decide +kernel
theorem fl_33 : (tFL 16).lookup 33 = some (16, 9) := by decide +kernel
theorem fl_36 : (tFL 16).lookup 36 = some (16, 20) := by decide +kernel
theorem fl_39 : (tFL 16).lookup 39 = some (16, 21) := by decide +kernel
theorem fl_42 : (tFL 16).lookup 42 = some (16, 22) := by decide +kernel
theorem fl_45 : (tFL 16).lookup 45 = some (16, 23) := by decide +kernel
theorem fl_48 : (tFL 16).lookup 48 = some (16, 24) := by decide +kernel
theorem fl_51 : (tFL 16).lookup 51 = some (16, 25) := by decide +kernel
theorem fl_54 : (tFL 16).lookup 54 = some (16, 26) := by decide +kernel
theorem fl_57 : (tFL 16).lookup 57 = some (16, 27) := by decide +kernel
theorem fl_60 : (tFL 16).lookup 60 = some (16, 28) := by decide +kernel
theorem fl_63 : (tFL 16).lookup 63 = some (16, 29) := by decide +kernel
theorem fl_66 : (tFL 16).lookup 66 = some (16, 30) := by decide +kernel
theorem fl_69 : (tFL 16).lookup 69 = some (16, 31) := by decide +kernel
theorem fl_72 : (tFL 16).lookup 72 = some (16, 32) := by decide +kernel
theorem fl_75 : (tFL 16).lookup 75 = some (16, 33) := by decide +kernel
theorem fl_78 : (tFL 16).lookup 78 = some (16, 34) := by decide +kernel
theorem fl_81 : (tFL 16).lookup 81 = some (16, 35) := by decide +kernel
theorem fl_84 : (tFL 16).lookup 84 = some (16, 36) := by decide +kernel
theorem fl_87 : (tFL 16).lookup 87 = some (16, 37) := by decide +kernel
theorem fl_90 : (tFL 16).lookup 90 = some (16, 38) := by decide +kernel
theorem fl_93 : (tFL 16).lookup 93 = some (16, 39) := by decide +kernel
theorem fl_96 : (tFL 16).lookup 96 = some (16, 43) := by decide +kernel
theorem fl_99 : (tFL 16).lookup 99 = some (16, 44) := by decide +kernel
theorem fl_102 : (tFL 16).lookup 102 = some (16, 45) := by decide +kernel
theorem fl_107 : (tFL 16).lookup 107 = some (16, 50) := by decide +kernel
theorem fl_110 : (tFL 16).lookup 110 = some (16, 51) := by decide +kernel
theorem fl_113 : (tFL 16).lookup 113 = some (16, 52) := by decide +kernel
theorem fl_116 : (tFL 16).lookup 116 = some (16, 54) := by decide +kernel
theorem fl_119 : (tFL 16).lookup 119 = some (16, 56) := by decide +kernel
theorem fl_122 : (tFL 16).lookup 122 = some (16, 57) := by decide +kernel
theorem fl_125 : (tFL 16).lookup 125 = some (16, 59) := by decide +kernel
theorem fl_128 : (tFL 16).lookup 128 = some (16, 60) := by decide +kernel
theorem fl_131 : (tFL 16).lookup 131 = some (16, 64) := by decide +kernel
theorem fl_134 : (tFL 16).lookup 134 = some (16, 65) := by decide +kernel
theorem fl_137 : (tFL 16).lookup 137 = some (16, 68) := by decide +kernel
theorem fl_141 : (tFL 16).lookup 141 = some (16, 73) := by decide +kernel
theorem fl_144 : (tFL 16).lookup 144 = some (16, 74) := by decide +kernel
theorem fl_148 : (tFL 16).lookup 148 = some (16, 75) := by decide +kernel
theorem fl_151 : (tFL 16).lookup 151 = some (16, 76) := by decide +kernel
theorem fl_154 : (tFL 16).lookup 154 = some (16, 77) := by decide +kernel
theorem fl_157 : (tFL 16).lookup 157 = some (16, 78) := by decide +kernel
theorem fl_160 : (tFL 16).lookup 160 = some (16, 79) := by decide +kernel
theorem fl_163 : (tFL 16).lookup 163 = some (16, 80) := by decide +kernel
theorem fl_166 : (tFL 16).lookup 166 = some (16, 81) := by decide +kernel
theorem fl_169 : (tFL 16).lookup 169 = some (16, 82) := by decide +kernel
theorem fl_172 : (tFL 16).lookup 172 = some (16, 83) := by decide +kernel
theorem fl_175 : (tFL 16).lookup 175 = some (16, 84) := by decide +kernel
theorem fl_178 : (tFL 16).lookup 178 = some (16, 86) := by decide +kernel
theorem fl_181 : (tFL 16).lookup 181 = some (16, 87) := by decide +kernel
theorem fl_185 : (tFL 16).lookup 185 = some (16, 90) := by decide +kernel
theorem fl_188 : (tFL 16).lookup 188 = some (16, 91) := by decide +kernel
theorem fl_192 : (tFL 16).lookup 192 = some (16, 93) := by decide +kernel
theorem fl_195 : (tFL 16).lookup 195 = some (16, 95) := by decide +kernel
theorem fl_198 : (tFL 16).lookup 198 = some (16, 96) := by decide +kernel
theorem fl_201 : (tFL 16).lookup 201 = some (16, 97) := by decide +kernel
theorem fl_204 : (tFL 16).lookup 204 = some (16, 98) := by decide +kernel
theorem fl_207 : (tFL 16).lookup 207 = some (16, 99) := by decide +kernel
theorem fl_214 : (tFL 16).lookup 214 = some (16, 102) := by decide +kernel
theorem fl_217 : (tFL 16).lookup 217 = some (16, 105) := by decide +kernel
theorem fl_220 : (tFL 16).lookup 220 = some (16, 106) := by decide +kernel
theorem fl_223 : (tFL 16).lookup 223 = some (16, 111) := by decide +kernel
theorem fl_226 : (tFL 16).lookup 226 = some (16, 115) := by decide +kernel
theorem fl_229 : (tFL 16).lookup 229 = some (16, 116) := by decide +kernel
theorem fl_232 : (tFL 16).lookup 232 = some (16, 117) := by decide +kernel
theorem fl_235 : (tFL 16).lookup 235 = some (16, 118) := by decide +kernel
theorem fl_238 : (tFL 16).lookup 238 = some (16, 119) := by decide +kernel
theorem fl_241 : (tFL 16).lookup 241 = some (16, 120) := by decide +kernel
theorem fl_244 : (tFL 16).lookup 244 = some (16, 121) := by decide +kernel
theorem fl_247 : (tFL 16).lookup 247 = some (16, 122) := by decide +kernel
theorem fl_250 : (tFL 16).lookup 250 = some (16, 123) := by decide +kernel
theorem fl_253 : (tFL 16).lookup 253 = some (16, 2) := by decide +kernel
theorem fl_281 : (tFL 16).lookup 281 = some (16, 3) := by decide +kernel
theorem fl_284 : (tFL 16).lookup 284 = some (16, 4) := by decide +kernel
theorem fl_300 : (tFL 16).lookup 300 = some (16, 11) := by decide +kernel
theorem fl_303 : (tFL 16).lookup 303 = some (16, 12) := by decide +kernel
theorem fl_306 : (tFL 16).lookup 306 = some (16, 10) := by decide +kernel
theorem fl_322 : (tFL 16).lookup 322 = some (16, 13) := by decide +kernel
theorem fl_333 : (tFL 16).lookup 333 = some (16, 15) := by decide +kernel
theorem fl_340 : (tFL 16).lookup 340 = some (16, 16) := by decide +kernel
theorem fl_343 : (tFL 16).lookup 343 = some (16, 18) := by decide +kernel
theorem fl_346 : (tFL 16).lookup 346 = some (16, 41) := by decide +kernel
theorem fl_369 : (tFL 16).lookup 369 = some (16, 17) := by decide +kernel
theorem fl_375 : (tFL 16).lookup 375 = some (16, 42) := by decide +kernel
theorem fl_378 : (tFL 16).lookup 378 = some (16, 19) := by decide +kernel
theorem fl_425 : (tFL 16).lookup 425 = some (16, 48) := by decide +kernel
theorem fl_428 : (tFL 16).lookup 428 = some (16, 47) := by decide +kernel
theorem fl_435 : (tFL 16).lookup 435 = some (16, 49) := by decide +kernel
theorem fl_438 : (tFL 16).lookup 438 = some (16, 46) := by decide +kernel
theorem fl_484 : (tFL 16).lookup 484 = some (16, 55) := by decide +kernel
theorem fl_487 : (tFL 16).lookup 487 = some (16, 40) := by decide +kernel
theorem fl_526 : (tFL 16).lookup 526 = some (16, 53) := by decide +kernel
theorem fl_529 : (tFL 16).lookup 529 = some (16, 14) := by decide +kernel
theorem fl_533 : (tFL 16).lookup 533 = some (16, 69) := by decide +kernel
theorem fl_536 : (tFL 16).lookup 536 = some (16, 94) := by decide +kernel
theorem fl_539 : (tFL 16).lookup 539 = some (16, 114) := by decide +kernel
theorem fl_542 : (tFL 16).lookup 542 = some (16, 70) := by decide +kernel
theorem fl_545 : (tFL 16).lookup 545 = some (16, 71) := by decide +kernel
theorem fl_548 : (tFL 16).lookup 548 = some (16, 72) := by decide +kernel
theorem fl_551 : (tFL 16).lookup 551 = some (16, 58) := by decide +kernel
theorem fl_554 : (tFL 16).lookup 554 = some (16, 61) := by decide +kernel
theorem fl_566 : (tFL 16).lookup 566 = some (16, 67) := by decide +kernel
theorem fl_575 : (tFL 16).lookup 575 = some (16, 63) := by decide +kernel
theorem fl_581 : (tFL 16).lookup 581 = some (16, 66) := by decide +kernel
theorem fl_585 : (tFL 16).lookup 585 = some (16, 62) := by decide +kernel
theorem fl_609 : (tFL 16).lookup 609 = some (16, 85) := by decide +kernel
theorem fl_658 : (tFL 16).lookup 658 = some (16, 88) := by decide +kernel
theorem fl_661 : (tFL 16).lookup 661 = some (16, 89) := by decide +kernel
theorem fl_710 : (tFL 16).lookup 710 = some (16, 92) := by decide +kernel
theorem fl_755 : (tFL 16).lookup 755 = some (16, 100) := by decide +kernel
theorem fl_821 : (tFL 16).lookup 821 = some (16, 103) := by decide +kernel
theorem fl_827 : (tFL 16).lookup 827 = some (16, 104) := by decide +kernel
theorem fl_830 : (tFL 16).lookup 830 = some (16, 113) := by decide +kernel
theorem fl_833 : (tFL 16).lookup 833 = some (16, 109) := by decide +kernel
theorem fl_836 : (tFL 16).lookup 836 = some (16, 112) := by decide +kernel
theorem fl_847 : (tFL 16).lookup 847 = some (16, 108) := by decide +kernel
theorem fl_850 : (tFL 16).lookup 850 = some (16, 110) := by decide +kernel
theorem fl_859 : (tFL 16).lookup 859 = some (16, 107) := by decide +kernel
theorem fl_896 : (tFL 16).lookup 896 = some (16, 124) := by decide +kernel
theorem fl_899 : (tFL 16).lookup 899 = some (16, 125) := by decide +kernel
theorem gv_0 {ad : Nat → Nat} {σ : rS} : rV ad σ 0 = .int (σ.1 0) := by unfold rV; rw [show rT 0 = none from by decide +kernel]; rfl
theorem gv_1 {ad : Nat → Nat} {σ : rS} : rV ad σ 1 = .ref (ad 1) := by unfold rV; rw [show rT 1 = some (1, 65536) from by decide +kernel]; rfl
theorem gv_2 {ad : Nat → Nat} {σ : rS} : rV ad σ 2 = .int (σ.1 2) := by unfold rV; rw [show rT 2 = none from by decide +kernel]; rfl
theorem gv_3 {ad : Nat → Nat} {σ : rS} : rV ad σ 3 = .int (σ.1 3) := by unfold rV; rw [show rT 3 = none from by decide +kernel]; rfl
theorem gv_4 {ad : Nat → Nat} {σ : rS} : rV ad σ 4 = .int (σ.1 4) := by unfold rV; rw [show rT 4 = none from by decide +kernel]; rfl
theorem gv_5 {ad : Nat → Nat} {σ : rS} : rV ad σ 5 = .ref (ad 5) := by unfold rV; rw [show rT 5 = some (1, 131074) from by decide +kernel]; rfl
theorem gv_6 {ad : Nat → Nat} {σ : rS} : rV ad σ 6 = .ref (ad 6) := by unfold rV; rw [show rT 6 = some (0, 131074) from by decide +kernel]; rfl
theorem gv_7 {ad : Nat → Nat} {σ : rS} : rV ad σ 7 = .ref (ad 7) := by unfold rV; rw [show rT 7 = some (0, 131074) from by decide +kernel]; rfl
theorem gv_8 {ad : Nat → Nat} {σ : rS} : rV ad σ 8 = .ref (ad 8) := by unfold rV; rw [show rT 8 = some (2, 131074) from by decide +kernel]; rfl
theorem gv_9 {ad : Nat → Nat} {σ : rS} : rV ad σ 9 = .ref (ad 9) := by unfold rV; rw [show rT 9 = some (0, 131074) from by decide +kernel]; rfl
theorem gv_10 {ad : Nat → Nat} {σ : rS} : rV ad σ 10 = .int (σ.1 10) := by unfold rV; rw [show rT 10 = none from by decide +kernel]; rfl
theorem gv_11 {ad : Nat → Nat} {σ : rS} : rV ad σ 11 = .int (σ.1 11) := by unfold rV; rw [show rT 11 = none from by decide +kernel]; rfl
theorem gv_12 {ad : Nat → Nat} {σ : rS} : rV ad σ 12 = .int (σ.1 12) := by unfold rV; rw [show rT 12 = none from by decide +kernel]; rfl
theorem gv_13 {ad : Nat → Nat} {σ : rS} : rV ad σ 13 = .int (σ.1 13) := by unfold rV; rw [show rT 13 = none from by decide +kernel]; rfl
theorem gv_14 {ad : Nat → Nat} {σ : rS} : rV ad σ 14 = .int (σ.1 14) := by unfold rV; rw [show rT 14 = none from by decide +kernel]; rfl
theorem gv_15 {ad : Nat → Nat} {σ : rS} : rV ad σ 15 = .int (σ.1 15) := by unfold rV; rw [show rT 15 = none from by decide +kernel]; rfl
theorem gv_16 {ad : Nat → Nat} {σ : rS} : rV ad σ 16 = .int (σ.1 16) := by unfold rV; rw [show rT 16 = none from by decide +kernel]; rfl
theorem gv_17 {ad : Nat → Nat} {σ : rS} : rV ad σ 17 = .int (σ.1 17) := by unfold rV; rw [show rT 17 = none from by decide +kernel]; rfl
theorem gv_18 {ad : Nat → Nat} {σ : rS} : rV ad σ 18 = .int (σ.1 18) := by unfold rV; rw [show rT 18 = none from by decide +kernel]; rfl
theorem gv_19 {ad : Nat → Nat} {σ : rS} : rV ad σ 19 = .int (σ.1 19) := by unfold rV; rw [show rT 19 = none from by decide +kernel]; rfl
theorem gv_20 {ad : Nat → Nat} {σ : rS} : rV ad σ 20 = .ref (ad 20) := by unfold rV; rw [show rT 20 = some (0, 10) from by decide +kernel]; rfl
theorem gv_21 {ad : Nat → Nat} {σ : rS} : rV ad σ 21 = .ref (ad 21) := by unfold rV; rw [show rT 21 = some (0, 10) from by decide +kernel]; rfl
theorem gv_22 {ad : Nat → Nat} {σ : rS} : rV ad σ 22 = .ref (ad 22) := by unfold rV; rw [show rT 22 = some (0, 3) from by decide +kernel]; rfl
theorem gv_23 {ad : Nat → Nat} {σ : rS} : rV ad σ 23 = .ref (ad 23) := by unfold rV; rw [show rT 23 = some (0, 3) from by decide +kernel]; rfl
theorem gv_24 {ad : Nat → Nat} {σ : rS} : rV ad σ 24 = .ref (ad 24) := by unfold rV; rw [show rT 24 = some (0, 3) from by decide +kernel]; rfl
theorem gv_25 {ad : Nat → Nat} {σ : rS} : rV ad σ 25 = .ref (ad 25) := by unfold rV; rw [show rT 25 = some (0, 10) from by decide +kernel]; rfl
theorem gv_26 {ad : Nat → Nat} {σ : rS} : rV ad σ 26 = .ref (ad 26) := by unfold rV; rw [show rT 26 = some (0, 10) from by decide +kernel]; rfl
theorem gv_27 {ad : Nat → Nat} {σ : rS} : rV ad σ 27 = .ref (ad 27) := by unfold rV; rw [show rT 27 = some (0, 10) from by decide +kernel]; rfl
theorem gv_28 {ad : Nat → Nat} {σ : rS} : rV ad σ 28 = .ref (ad 28) := by unfold rV; rw [show rT 28 = some (0, 80) from by decide +kernel]; rfl
theorem gv_29 {ad : Nat → Nat} {σ : rS} : rV ad σ 29 = .ref (ad 29) := by unfold rV; rw [show rT 29 = some (0, 10) from by decide +kernel]; rfl
theorem gv_30 {ad : Nat → Nat} {σ : rS} : rV ad σ 30 = .ref (ad 30) := by unfold rV; rw [show rT 30 = some (0, 150) from by decide +kernel]; rfl
theorem gv_31 {ad : Nat → Nat} {σ : rS} : rV ad σ 31 = .ref (ad 31) := by unfold rV; rw [show rT 31 = some (0, 150) from by decide +kernel]; rfl
theorem gv_32 {ad : Nat → Nat} {σ : rS} : rV ad σ 32 = .ref (ad 32) := by unfold rV; rw [show rT 32 = some (0, 150) from by decide +kernel]; rfl
theorem gv_33 {ad : Nat → Nat} {σ : rS} : rV ad σ 33 = .ref (ad 33) := by unfold rV; rw [show rT 33 = some (0, 150) from by decide +kernel]; rfl
theorem gv_34 {ad : Nat → Nat} {σ : rS} : rV ad σ 34 = .ref (ad 34) := by unfold rV; rw [show rT 34 = some (0, 150) from by decide +kernel]; rfl
theorem gv_35 {ad : Nat → Nat} {σ : rS} : rV ad σ 35 = .ref (ad 35) := by unfold rV; rw [show rT 35 = some (0, 150) from by decide +kernel]; rfl
theorem gv_36 {ad : Nat → Nat} {σ : rS} : rV ad σ 36 = .ref (ad 36) := by unfold rV; rw [show rT 36 = some (0, 150) from by decide +kernel]; rfl
theorem gv_37 {ad : Nat → Nat} {σ : rS} : rV ad σ 37 = .ref (ad 37) := by unfold rV; rw [show rT 37 = some (0, 150) from by decide +kernel]; rfl
theorem gv_38 {ad : Nat → Nat} {σ : rS} : rV ad σ 38 = .ref (ad 38) := by unfold rV; rw [show rT 38 = some (0, 150) from by decide +kernel]; rfl
theorem gv_39 {ad : Nat → Nat} {σ : rS} : rV ad σ 39 = .ref (ad 39) := by unfold rV; rw [show rT 39 = some (0, 131074) from by decide +kernel]; rfl
theorem gv_40 {ad : Nat → Nat} {σ : rS} : rV ad σ 40 = .int (σ.1 40) := by unfold rV; rw [show rT 40 = none from by decide +kernel]; rfl
theorem gv_41 {ad : Nat → Nat} {σ : rS} : rV ad σ 41 = .int (σ.1 41) := by unfold rV; rw [show rT 41 = none from by decide +kernel]; rfl
theorem gv_42 {ad : Nat → Nat} {σ : rS} : rV ad σ 42 = .int (σ.1 42) := by unfold rV; rw [show rT 42 = none from by decide +kernel]; rfl
theorem gv_43 {ad : Nat → Nat} {σ : rS} : rV ad σ 43 = .ref (ad 43) := by unfold rV; rw [show rT 43 = some (0, 64) from by decide +kernel]; rfl
theorem gv_44 {ad : Nat → Nat} {σ : rS} : rV ad σ 44 = .ref (ad 44) := by unfold rV; rw [show rT 44 = some (0, 64) from by decide +kernel]; rfl
theorem gv_45 {ad : Nat → Nat} {σ : rS} : rV ad σ 45 = .ref (ad 45) := by unfold rV; rw [show rT 45 = some (3, 64) from by decide +kernel]; rfl
theorem gv_46 {ad : Nat → Nat} {σ : rS} : rV ad σ 46 = .int (σ.1 46) := by unfold rV; rw [show rT 46 = none from by decide +kernel]; rfl
theorem gv_47 {ad : Nat → Nat} {σ : rS} : rV ad σ 47 = .int (σ.1 47) := by unfold rV; rw [show rT 47 = none from by decide +kernel]; rfl
theorem gv_48 {ad : Nat → Nat} {σ : rS} : rV ad σ 48 = .int (σ.1 48) := by unfold rV; rw [show rT 48 = none from by decide +kernel]; rfl
theorem gv_49 {ad : Nat → Nat} {σ : rS} : rV ad σ 49 = .int (σ.1 49) := by unfold rV; rw [show rT 49 = none from by decide +kernel]; rfl
theorem gv_50 {ad : Nat → Nat} {σ : rS} : rV ad σ 50 = .ref (ad 50) := by unfold rV; rw [show rT 50 = some (0, 66000) from by decide +kernel]; rfl
theorem gv_51 {ad : Nat → Nat} {σ : rS} : rV ad σ 51 = .ref (ad 51) := by unfold rV; rw [show rT 51 = some (0, 66000) from by decide +kernel]; rfl
theorem gv_52 {ad : Nat → Nat} {σ : rS} : rV ad σ 52 = .ref (ad 52) := by unfold rV; rw [show rT 52 = some (0, 66000) from by decide +kernel]; rfl
theorem gv_53 {ad : Nat → Nat} {σ : rS} : rV ad σ 53 = .int (σ.1 53) := by unfold rV; rw [show rT 53 = none from by decide +kernel]; rfl
theorem gv_54 {ad : Nat → Nat} {σ : rS} : rV ad σ 54 = .ref (ad 54) := by unfold rV; rw [show rT 54 = some (0, 2048) from by decide +kernel]; rfl
theorem gv_55 {ad : Nat → Nat} {σ : rS} : rV ad σ 55 = .int (σ.1 55) := by unfold rV; rw [show rT 55 = none from by decide +kernel]; rfl
theorem gv_56 {ad : Nat → Nat} {σ : rS} : rV ad σ 56 = .ref (ad 56) := by unfold rV; rw [show rT 56 = some (0, 8) from by decide +kernel]; rfl
theorem gv_57 {ad : Nat → Nat} {σ : rS} : rV ad σ 57 = .ref (ad 57) := by unfold rV; rw [show rT 57 = some (0, 34) from by decide +kernel]; rfl
theorem gv_58 {ad : Nat → Nat} {σ : rS} : rV ad σ 58 = .int (σ.1 58) := by unfold rV; rw [show rT 58 = none from by decide +kernel]; rfl
theorem gv_59 {ad : Nat → Nat} {σ : rS} : rV ad σ 59 = .ref (ad 59) := by unfold rV; rw [show rT 59 = some (0, 12) from by decide +kernel]; rfl
theorem gv_60 {ad : Nat → Nat} {σ : rS} : rV ad σ 60 = .ref (ad 60) := by unfold rV; rw [show rT 60 = some (0, 96) from by decide +kernel]; rfl
theorem gv_61 {ad : Nat → Nat} {σ : rS} : rV ad σ 61 = .int (σ.1 61) := by unfold rV; rw [show rT 61 = none from by decide +kernel]; rfl
theorem gv_62 {ad : Nat → Nat} {σ : rS} : rV ad σ 62 = .int (σ.1 62) := by unfold rV; rw [show rT 62 = none from by decide +kernel]; rfl
theorem gv_63 {ad : Nat → Nat} {σ : rS} : rV ad σ 63 = .int (σ.1 63) := by unfold rV; rw [show rT 63 = none from by decide +kernel]; rfl
theorem gv_64 {ad : Nat → Nat} {σ : rS} : rV ad σ 64 = .ref (ad 64) := by unfold rV; rw [show rT 64 = some (0, 64) from by decide +kernel]; rfl
theorem gv_65 {ad : Nat → Nat} {σ : rS} : rV ad σ 65 = .ref (ad 65) := by unfold rV; rw [show rT 65 = some (0, 64) from by decide +kernel]; rfl
theorem gv_66 {ad : Nat → Nat} {σ : rS} : rV ad σ 66 = .int (σ.1 66) := by unfold rV; rw [show rT 66 = none from by decide +kernel]; rfl
theorem gv_67 {ad : Nat → Nat} {σ : rS} : rV ad σ 67 = .int (σ.1 67) := by unfold rV; rw [show rT 67 = none from by decide +kernel]; rfl
theorem gv_68 {ad : Nat → Nat} {σ : rS} : rV ad σ 68 = .ref (ad 68) := by unfold rV; rw [show rT 68 = some (0, 4) from by decide +kernel]; rfl
theorem gv_69 {ad : Nat → Nat} {σ : rS} : rV ad σ 69 = .int (σ.1 69) := by unfold rV; rw [show rT 69 = none from by decide +kernel]; rfl
theorem gv_70 {ad : Nat → Nat} {σ : rS} : rV ad σ 70 = .int (σ.1 70) := by unfold rV; rw [show rT 70 = none from by decide +kernel]; rfl
theorem gv_71 {ad : Nat → Nat} {σ : rS} : rV ad σ 71 = .int (σ.1 71) := by unfold rV; rw [show rT 71 = none from by decide +kernel]; rfl
theorem gv_72 {ad : Nat → Nat} {σ : rS} : rV ad σ 72 = .int (σ.1 72) := by unfold rV; rw [show rT 72 = none from by decide +kernel]; rfl
theorem gv_73 {ad : Nat → Nat} {σ : rS} : rV ad σ 73 = .ref (ad 73) := by unfold rV; rw [show rT 73 = some (0, 143000) from by decide +kernel]; rfl
theorem gv_74 {ad : Nat → Nat} {σ : rS} : rV ad σ 74 = .ref (ad 74) := by unfold rV; rw [show rT 74 = some (0, 1000) from by decide +kernel]; rfl
theorem gv_75 {ad : Nat → Nat} {σ : rS} : rV ad σ 75 = .ref (ad 75) := by unfold rV; rw [show rT 75 = some (0, 35000) from by decide +kernel]; rfl
theorem gv_76 {ad : Nat → Nat} {σ : rS} : rV ad σ 76 = .ref (ad 76) := by unfold rV; rw [show rT 76 = some (0, 1001) from by decide +kernel]; rfl
theorem gv_77 {ad : Nat → Nat} {σ : rS} : rV ad σ 77 = .ref (ad 77) := by unfold rV; rw [show rT 77 = some (0, 20000) from by decide +kernel]; rfl
theorem gv_78 {ad : Nat → Nat} {σ : rS} : rV ad σ 78 = .ref (ad 78) := by unfold rV; rw [show rT 78 = some (0, 20000) from by decide +kernel]; rfl
theorem gv_79 {ad : Nat → Nat} {σ : rS} : rV ad σ 79 = .ref (ad 79) := by unfold rV; rw [show rT 79 = some (0, 20000) from by decide +kernel]; rfl
theorem gv_80 {ad : Nat → Nat} {σ : rS} : rV ad σ 80 = .ref (ad 80) := by unfold rV; rw [show rT 80 = some (0, 1000) from by decide +kernel]; rfl
theorem gv_81 {ad : Nat → Nat} {σ : rS} : rV ad σ 81 = .ref (ad 81) := by unfold rV; rw [show rT 81 = some (3, 1000) from by decide +kernel]; rfl
theorem gv_82 {ad : Nat → Nat} {σ : rS} : rV ad σ 82 = .ref (ad 82) := by unfold rV; rw [show rT 82 = some (0, 1000) from by decide +kernel]; rfl
theorem gv_83 {ad : Nat → Nat} {σ : rS} : rV ad σ 83 = .ref (ad 83) := by unfold rV; rw [show rT 83 = some (0, 1000) from by decide +kernel]; rfl
theorem gv_84 {ad : Nat → Nat} {σ : rS} : rV ad σ 84 = .ref (ad 84) := by unfold rV; rw [show rT 84 = some (0, 143) from by decide +kernel]; rfl
theorem gv_85 {ad : Nat → Nat} {σ : rS} : rV ad σ 85 = .int (σ.1 85) := by unfold rV; rw [show rT 85 = none from by decide +kernel]; rfl
theorem gv_86 {ad : Nat → Nat} {σ : rS} : rV ad σ 86 = .ref (ad 86) := by unfold rV; rw [show rT 86 = some (2, 16000) from by decide +kernel]; rfl
theorem gv_87 {ad : Nat → Nat} {σ : rS} : rV ad σ 87 = .ref (ad 87) := by unfold rV; rw [show rT 87 = some (3, 1000) from by decide +kernel]; rfl
theorem gv_88 {ad : Nat → Nat} {σ : rS} : rV ad σ 88 = .int (σ.1 88) := by unfold rV; rw [show rT 88 = none from by decide +kernel]; rfl
theorem gv_89 {ad : Nat → Nat} {σ : rS} : rV ad σ 89 = .int (σ.1 89) := by unfold rV; rw [show rT 89 = none from by decide +kernel]; rfl
theorem gv_90 {ad : Nat → Nat} {σ : rS} : rV ad σ 90 = .ref (ad 90) := by unfold rV; rw [show rT 90 = some (0, 1200000) from by decide +kernel]; rfl
theorem gv_91 {ad : Nat → Nat} {σ : rS} : rV ad σ 91 = .ref (ad 91) := by unfold rV; rw [show rT 91 = some (0, 30) from by decide +kernel]; rfl
theorem gv_92 {ad : Nat → Nat} {σ : rS} : rV ad σ 92 = .int (σ.1 92) := by unfold rV; rw [show rT 92 = none from by decide +kernel]; rfl
theorem gv_93 {ad : Nat → Nat} {σ : rS} : rV ad σ 93 = .ref (ad 93) := by unfold rV; rw [show rT 93 = some (0, 566000) from by decide +kernel]; rfl
theorem gv_94 {ad : Nat → Nat} {σ : rS} : rV ad σ 94 = .int (σ.1 94) := by unfold rV; rw [show rT 94 = none from by decide +kernel]; rfl
theorem gv_95 {ad : Nat → Nat} {σ : rS} : rV ad σ 95 = .ref (ad 95) := by unfold rV; rw [show rT 95 = some (3, 1000) from by decide +kernel]; rfl
theorem gv_96 {ad : Nat → Nat} {σ : rS} : rV ad σ 96 = .ref (ad 96) := by unfold rV; rw [show rT 96 = some (3, 1000) from by decide +kernel]; rfl
theorem gv_97 {ad : Nat → Nat} {σ : rS} : rV ad σ 97 = .ref (ad 97) := by unfold rV; rw [show rT 97 = some (0, 1000) from by decide +kernel]; rfl
theorem gv_98 {ad : Nat → Nat} {σ : rS} : rV ad σ 98 = .ref (ad 98) := by unfold rV; rw [show rT 98 = some (0, 1000) from by decide +kernel]; rfl
theorem gv_99 {ad : Nat → Nat} {σ : rS} : rV ad σ 99 = .ref (ad 99) := by unfold rV; rw [show rT 99 = some (0, 1000) from by decide +kernel]; rfl
theorem gv_100 {ad : Nat → Nat} {σ : rS} : rV ad σ 100 = .int (σ.1 100) := by unfold rV; rw [show rT 100 = none from by decide +kernel]; rfl
theorem gv_102 {ad : Nat → Nat} {σ : rS} : rV ad σ 102 = .ref (ad 102) := by unfold rV; rw [show rT 102 = some (0, 34000) from by decide +kernel]; rfl
theorem gv_103 {ad : Nat → Nat} {σ : rS} : rV ad σ 103 = .int (σ.1 103) := by unfold rV; rw [show rT 103 = none from by decide +kernel]; rfl
theorem gv_104 {ad : Nat → Nat} {σ : rS} : rV ad σ 104 = .int (σ.1 104) := by unfold rV; rw [show rT 104 = none from by decide +kernel]; rfl
theorem gv_105 {ad : Nat → Nat} {σ : rS} : rV ad σ 105 = .ref (ad 105) := by unfold rV; rw [show rT 105 = some (0, 200) from by decide +kernel]; rfl
theorem gv_106 {ad : Nat → Nat} {σ : rS} : rV ad σ 106 = .int (σ.1 106) := by unfold rV; rw [show rT 106 = none from by decide +kernel]; rfl
theorem gv_107 {ad : Nat → Nat} {σ : rS} : rV ad σ 107 = .int (σ.1 107) := by unfold rV; rw [show rT 107 = none from by decide +kernel]; rfl
theorem gv_108 {ad : Nat → Nat} {σ : rS} : rV ad σ 108 = .int (σ.1 108) := by unfold rV; rw [show rT 108 = none from by decide +kernel]; rfl
theorem gv_109 {ad : Nat → Nat} {σ : rS} : rV ad σ 109 = .int (σ.1 109) := by unfold rV; rw [show rT 109 = none from by decide +kernel]; rfl
theorem gv_110 {ad : Nat → Nat} {σ : rS} : rV ad σ 110 = .long (σ.2.1 110) := by unfold rV; rw [show rT 110 = none from by decide +kernel]; rfl
theorem gv_111 {ad : Nat → Nat} {σ : rS} : rV ad σ 111 = .ref (ad 111) := by unfold rV; rw [show rT 111 = some (0, 34) from by decide +kernel]; rfl
theorem gv_112 {ad : Nat → Nat} {σ : rS} : rV ad σ 112 = .long (σ.2.1 112) := by unfold rV; rw [show rT 112 = none from by decide +kernel]; rfl
theorem gv_113 {ad : Nat → Nat} {σ : rS} : rV ad σ 113 = .int (σ.1 113) := by unfold rV; rw [show rT 113 = none from by decide +kernel]; rfl
theorem gv_114 {ad : Nat → Nat} {σ : rS} : rV ad σ 114 = .int (σ.1 114) := by unfold rV; rw [show rT 114 = none from by decide +kernel]; rfl
theorem gv_115 {ad : Nat → Nat} {σ : rS} : rV ad σ 115 = .ref (ad 115) := by unfold rV; rw [show rT 115 = some (0, 34000) from by decide +kernel]; rfl
theorem gv_116 {ad : Nat → Nat} {σ : rS} : rV ad σ 116 = .ref (ad 116) := by unfold rV; rw [show rT 116 = some (0, 1000) from by decide +kernel]; rfl
theorem gv_117 {ad : Nat → Nat} {σ : rS} : rV ad σ 117 = .ref (ad 117) := by unfold rV; rw [show rT 117 = some (0, 34000) from by decide +kernel]; rfl
theorem gv_118 {ad : Nat → Nat} {σ : rS} : rV ad σ 118 = .ref (ad 118) := by unfold rV; rw [show rT 118 = some (0, 1000) from by decide +kernel]; rfl
theorem gv_119 {ad : Nat → Nat} {σ : rS} : rV ad σ 119 = .ref (ad 119) := by unfold rV; rw [show rT 119 = some (0, 1000) from by decide +kernel]; rfl
theorem gv_120 {ad : Nat → Nat} {σ : rS} : rV ad σ 120 = .ref (ad 120) := by unfold rV; rw [show rT 120 = some (3, 1000) from by decide +kernel]; rfl
theorem gv_121 {ad : Nat → Nat} {σ : rS} : rV ad σ 121 = .ref (ad 121) := by unfold rV; rw [show rT 121 = some (0, 1000) from by decide +kernel]; rfl
theorem gv_122 {ad : Nat → Nat} {σ : rS} : rV ad σ 122 = .ref (ad 122) := by unfold rV; rw [show rT 122 = some (0, 1000) from by decide +kernel]; rfl
theorem gv_123 {ad : Nat → Nat} {σ : rS} : rV ad σ 123 = .ref (ad 123) := by unfold rV; rw [show rT 123 = some (0, 1000) from by decide +kernel]; rfl
theorem gv_124 {ad : Nat → Nat} {σ : rS} : rV ad σ 124 = .int (σ.1 124) := by unfold rV; rw [show rT 124 = none from by decide +kernel]; rfl
theorem gv_125 {ad : Nat → Nat} {σ : rS} : rV ad σ 125 = .int (σ.1 125) := by unfold rV; rw [show rT 125 = none from by decide +kernel]; rfl
theorem gf_1 {C : rCx} {d : Nat} {r : dM} {pc : Nat} {L : List (Option Value)} {st : List Value} {σ : rS} {Q : Option Value → rS → Prop} (hd : decode r.2.1 pc = .ok (.getfield 1, 3)) (ho : r.2.2.2.2.2.1 = 16) (K : wG C d r (pc + 3) L (.int (σ.1 0) :: st) σ Q) : wG C d r pc L (.ref (co C) :: st) σ Q := s_get hd ho fl_1 (by decide) gv_0 K
theorem gf_14 {C : rCx} {d : Nat} {r : dM} {pc : Nat} {L : List (Option Value)} {st : List Value} {σ : rS} {Q : Option Value → rS → Prop} (hd : decode r.2.1 pc = .ok (.getfield 14, 3)) (ho : r.2.2.2.2.2.1 = 16) (K : wG C d r (pc + 3) L (.ref (cad C 1) :: st) σ Q) : wG C d r pc L (.ref (co C) :: st) σ Q := s_get hd ho fl_14 (by decide) gv_1 K
theorem gf_19 {C : rCx} {d : Nat} {r : dM} {pc : Nat} {L : List (Option Value)} {st : List Value} {σ : rS} {Q : Option Value → rS → Prop} (hd : decode r.2.1 pc = .ok (.getfield 19, 3)) (ho : r.2.2.2.2.2.1 = 16) (K : wG C d r (pc + 3) L (.ref (cad C 5) :: st) σ Q) : wG C d r pc L (.ref (co C) :: st) σ Q := s_get hd ho fl_19 (by decide) gv_5 K
theorem gf_22 {C : rCx} {d : Nat} {r : dM} {pc : Nat} {L : List (Option Value)} {st : List Value} {σ : rS} {Q : Option Value → rS → Prop} (hd : decode r.2.1 pc = .ok (.getfield 22, 3)) (ho : r.2.2.2.2.2.1 = 16) (K : wG C d r (pc + 3) L (.ref (cad C 6) :: st) σ Q) : wG C d r pc L (.ref (co C) :: st) σ Q := s_get hd ho fl_22 (by decide) gv_6 K
theorem gf_26 {C : rCx} {d : Nat} {r : dM} {pc : Nat} {L : List (Option Value)} {st : List Value} {σ : rS} {Q : Option Value → rS → Prop} (hd : decode r.2.1 pc = .ok (.getfield 26, 3)) (ho : r.2.2.2.2.2.1 = 16) (K : wG C d r (pc + 3) L (.ref (cad C 7) :: st) σ Q) : wG C d r pc L (.ref (co C) :: st) σ Q := s_get hd ho fl_26 (by decide) gv_7 K
theorem gf_29 {C : rCx} {d : Nat} {r : dM} {pc : Nat} {L : List (Option Value)} {st : List Value} {σ : rS} {Q : Option Value → rS → Prop} (hd : decode r.2.1 pc = .ok (.getfield 29, 3)) (ho : r.2.2.2.2.2.1 = 16) (K : wG C d r (pc + 3) L (.ref (cad C 8) :: st) σ Q) : wG C d r pc L (.ref (co C) :: st) σ Q := s_get hd ho fl_29 (by decide) gv_8 K
theorem gf_33 {C : rCx} {d : Nat} {r : dM} {pc : Nat} {L : List (Option Value)} {st : List Value} {σ : rS} {Q : Option Value → rS → Prop} (hd : decode r.2.1 pc = .ok (.getfield 33, 3)) (ho : r.2.2.2.2.2.1 = 16) (K : wG C d r (pc + 3) L (.ref (cad C 9) :: st) σ Q) : wG C d r pc L (.ref (co C) :: st) σ Q := s_get hd ho fl_33 (by decide) gv_9 K
theorem gf_36 {C : rCx} {d : Nat} {r : dM} {pc : Nat} {L : List (Option Value)} {st : List Value} {σ : rS} {Q : Option Value → rS → Prop} (hd : decode r.2.1 pc = .ok (.getfield 36, 3)) (ho : r.2.2.2.2.2.1 = 16) (K : wG C d r (pc + 3) L (.ref (cad C 20) :: st) σ Q) : wG C d r pc L (.ref (co C) :: st) σ Q := s_get hd ho fl_36 (by decide) gv_20 K
theorem gf_39 {C : rCx} {d : Nat} {r : dM} {pc : Nat} {L : List (Option Value)} {st : List Value} {σ : rS} {Q : Option Value → rS → Prop} (hd : decode r.2.1 pc = .ok (.getfield 39, 3)) (ho : r.2.2.2.2.2.1 = 16) (K : wG C d r (pc + 3) L (.ref (cad C 21) :: st) σ Q) : wG C d r pc L (.ref (co C) :: st) σ Q := s_get hd ho fl_39 (by decide) gv_21 K
theorem gf_42 {C : rCx} {d : Nat} {r : dM} {pc : Nat} {L : List (Option Value)} {st : List Value} {σ : rS} {Q : Option Value → rS → Prop} (hd : decode r.2.1 pc = .ok (.getfield 42, 3)) (ho : r.2.2.2.2.2.1 = 16) (K : wG C d r (pc + 3) L (.ref (cad C 22) :: st) σ Q) : wG C d r pc L (.ref (co C) :: st) σ Q := s_get hd ho fl_42 (by decide) gv_22 K
theorem gf_45 {C : rCx} {d : Nat} {r : dM} {pc : Nat} {L : List (Option Value)} {st : List Value} {σ : rS} {Q : Option Value → rS → Prop} (hd : decode r.2.1 pc = .ok (.getfield 45, 3)) (ho : r.2.2.2.2.2.1 = 16) (K : wG C d r (pc + 3) L (.ref (cad C 23) :: st) σ Q) : wG C d r pc L (.ref (co C) :: st) σ Q := s_get hd ho fl_45 (by decide) gv_23 K
theorem gf_48 {C : rCx} {d : Nat} {r : dM} {pc : Nat} {L : List (Option Value)} {st : List Value} {σ : rS} {Q : Option Value → rS → Prop} (hd : decode r.2.1 pc = .ok (.getfield 48, 3)) (ho : r.2.2.2.2.2.1 = 16) (K : wG C d r (pc + 3) L (.ref (cad C 24) :: st) σ Q) : wG C d r pc L (.ref (co C) :: st) σ Q := s_get hd ho fl_48 (by decide) gv_24 K
theorem gf_51 {C : rCx} {d : Nat} {r : dM} {pc : Nat} {L : List (Option Value)} {st : List Value} {σ : rS} {Q : Option Value → rS → Prop} (hd : decode r.2.1 pc = .ok (.getfield 51, 3)) (ho : r.2.2.2.2.2.1 = 16) (K : wG C d r (pc + 3) L (.ref (cad C 25) :: st) σ Q) : wG C d r pc L (.ref (co C) :: st) σ Q := s_get hd ho fl_51 (by decide) gv_25 K
theorem gf_54 {C : rCx} {d : Nat} {r : dM} {pc : Nat} {L : List (Option Value)} {st : List Value} {σ : rS} {Q : Option Value → rS → Prop} (hd : decode r.2.1 pc = .ok (.getfield 54, 3)) (ho : r.2.2.2.2.2.1 = 16) (K : wG C d r (pc + 3) L (.ref (cad C 26) :: st) σ Q) : wG C d r pc L (.ref (co C) :: st) σ Q := s_get hd ho fl_54 (by decide) gv_26 K
theorem gf_57 {C : rCx} {d : Nat} {r : dM} {pc : Nat} {L : List (Option Value)} {st : List Value} {σ : rS} {Q : Option Value → rS → Prop} (hd : decode r.2.1 pc = .ok (.getfield 57, 3)) (ho : r.2.2.2.2.2.1 = 16) (K : wG C d r (pc + 3) L (.ref (cad C 27) :: st) σ Q) : wG C d r pc L (.ref (co C) :: st) σ Q := s_get hd ho fl_57 (by decide) gv_27 K
theorem gf_60 {C : rCx} {d : Nat} {r : dM} {pc : Nat} {L : List (Option Value)} {st : List Value} {σ : rS} {Q : Option Value → rS → Prop} (hd : decode r.2.1 pc = .ok (.getfield 60, 3)) (ho : r.2.2.2.2.2.1 = 16) (K : wG C d r (pc + 3) L (.ref (cad C 28) :: st) σ Q) : wG C d r pc L (.ref (co C) :: st) σ Q := s_get hd ho fl_60 (by decide) gv_28 K
theorem gf_63 {C : rCx} {d : Nat} {r : dM} {pc : Nat} {L : List (Option Value)} {st : List Value} {σ : rS} {Q : Option Value → rS → Prop} (hd : decode r.2.1 pc = .ok (.getfield 63, 3)) (ho : r.2.2.2.2.2.1 = 16) (K : wG C d r (pc + 3) L (.ref (cad C 29) :: st) σ Q) : wG C d r pc L (.ref (co C) :: st) σ Q := s_get hd ho fl_63 (by decide) gv_29 K
theorem gf_66 {C : rCx} {d : Nat} {r : dM} {pc : Nat} {L : List (Option Value)} {st : List Value} {σ : rS} {Q : Option Value → rS → Prop} (hd : decode r.2.1 pc = .ok (.getfield 66, 3)) (ho : r.2.2.2.2.2.1 = 16) (K : wG C d r (pc + 3) L (.ref (cad C 30) :: st) σ Q) : wG C d r pc L (.ref (co C) :: st) σ Q := s_get hd ho fl_66 (by decide) gv_30 K
theorem gf_69 {C : rCx} {d : Nat} {r : dM} {pc : Nat} {L : List (Option Value)} {st : List Value} {σ : rS} {Q : Option Value → rS → Prop} (hd : decode r.2.1 pc = .ok (.getfield 69, 3)) (ho : r.2.2.2.2.2.1 = 16) (K : wG C d r (pc + 3) L (.ref (cad C 31) :: st) σ Q) : wG C d r pc L (.ref (co C) :: st) σ Q := s_get hd ho fl_69 (by decide) gv_31 K
theorem gf_72 {C : rCx} {d : Nat} {r : dM} {pc : Nat} {L : List (Option Value)} {st : List Value} {σ : rS} {Q : Option Value → rS → Prop} (hd : decode r.2.1 pc = .ok (.getfield 72, 3)) (ho : r.2.2.2.2.2.1 = 16) (K : wG C d r (pc + 3) L (.ref (cad C 32) :: st) σ Q) : wG C d r pc L (.ref (co C) :: st) σ Q := s_get hd ho fl_72 (by decide) gv_32 K
theorem gf_75 {C : rCx} {d : Nat} {r : dM} {pc : Nat} {L : List (Option Value)} {st : List Value} {σ : rS} {Q : Option Value → rS → Prop} (hd : decode r.2.1 pc = .ok (.getfield 75, 3)) (ho : r.2.2.2.2.2.1 = 16) (K : wG C d r (pc + 3) L (.ref (cad C 33) :: st) σ Q) : wG C d r pc L (.ref (co C) :: st) σ Q := s_get hd ho fl_75 (by decide) gv_33 K
theorem gf_78 {C : rCx} {d : Nat} {r : dM} {pc : Nat} {L : List (Option Value)} {st : List Value} {σ : rS} {Q : Option Value → rS → Prop} (hd : decode r.2.1 pc = .ok (.getfield 78, 3)) (ho : r.2.2.2.2.2.1 = 16) (K : wG C d r (pc + 3) L (.ref (cad C 34) :: st) σ Q) : wG C d r pc L (.ref (co C) :: st) σ Q := s_get hd ho fl_78 (by decide) gv_34 K
theorem gf_81 {C : rCx} {d : Nat} {r : dM} {pc : Nat} {L : List (Option Value)} {st : List Value} {σ : rS} {Q : Option Value → rS → Prop} (hd : decode r.2.1 pc = .ok (.getfield 81, 3)) (ho : r.2.2.2.2.2.1 = 16) (K : wG C d r (pc + 3) L (.ref (cad C 35) :: st) σ Q) : wG C d r pc L (.ref (co C) :: st) σ Q := s_get hd ho fl_81 (by decide) gv_35 K
theorem gf_84 {C : rCx} {d : Nat} {r : dM} {pc : Nat} {L : List (Option Value)} {st : List Value} {σ : rS} {Q : Option Value → rS → Prop} (hd : decode r.2.1 pc = .ok (.getfield 84, 3)) (ho : r.2.2.2.2.2.1 = 16) (K : wG C d r (pc + 3) L (.ref (cad C 36) :: st) σ Q) : wG C d r pc L (.ref (co C) :: st) σ Q := s_get hd ho fl_84 (by decide) gv_36 K
theorem gf_87 {C : rCx} {d : Nat} {r : dM} {pc : Nat} {L : List (Option Value)} {st : List Value} {σ : rS} {Q : Option Value → rS → Prop} (hd : decode r.2.1 pc = .ok (.getfield 87, 3)) (ho : r.2.2.2.2.2.1 = 16) (K : wG C d r (pc + 3) L (.ref (cad C 37) :: st) σ Q) : wG C d r pc L (.ref (co C) :: st) σ Q := s_get hd ho fl_87 (by decide) gv_37 K
theorem gf_90 {C : rCx} {d : Nat} {r : dM} {pc : Nat} {L : List (Option Value)} {st : List Value} {σ : rS} {Q : Option Value → rS → Prop} (hd : decode r.2.1 pc = .ok (.getfield 90, 3)) (ho : r.2.2.2.2.2.1 = 16) (K : wG C d r (pc + 3) L (.ref (cad C 38) :: st) σ Q) : wG C d r pc L (.ref (co C) :: st) σ Q := s_get hd ho fl_90 (by decide) gv_38 K
theorem gf_93 {C : rCx} {d : Nat} {r : dM} {pc : Nat} {L : List (Option Value)} {st : List Value} {σ : rS} {Q : Option Value → rS → Prop} (hd : decode r.2.1 pc = .ok (.getfield 93, 3)) (ho : r.2.2.2.2.2.1 = 16) (K : wG C d r (pc + 3) L (.ref (cad C 39) :: st) σ Q) : wG C d r pc L (.ref (co C) :: st) σ Q := s_get hd ho fl_93 (by decide) gv_39 K
theorem gf_96 {C : rCx} {d : Nat} {r : dM} {pc : Nat} {L : List (Option Value)} {st : List Value} {σ : rS} {Q : Option Value → rS → Prop} (hd : decode r.2.1 pc = .ok (.getfield 96, 3)) (ho : r.2.2.2.2.2.1 = 16) (K : wG C d r (pc + 3) L (.ref (cad C 43) :: st) σ Q) : wG C d r pc L (.ref (co C) :: st) σ Q := s_get hd ho fl_96 (by decide) gv_43 K
theorem gf_99 {C : rCx} {d : Nat} {r : dM} {pc : Nat} {L : List (Option Value)} {st : List Value} {σ : rS} {Q : Option Value → rS → Prop} (hd : decode r.2.1 pc = .ok (.getfield 99, 3)) (ho : r.2.2.2.2.2.1 = 16) (K : wG C d r (pc + 3) L (.ref (cad C 44) :: st) σ Q) : wG C d r pc L (.ref (co C) :: st) σ Q := s_get hd ho fl_99 (by decide) gv_44 K
theorem gf_102 {C : rCx} {d : Nat} {r : dM} {pc : Nat} {L : List (Option Value)} {st : List Value} {σ : rS} {Q : Option Value → rS → Prop} (hd : decode r.2.1 pc = .ok (.getfield 102, 3)) (ho : r.2.2.2.2.2.1 = 16) (K : wG C d r (pc + 3) L (.ref (cad C 45) :: st) σ Q) : wG C d r pc L (.ref (co C) :: st) σ Q := s_get hd ho fl_102 (by decide) gv_45 K
theorem gf_107 {C : rCx} {d : Nat} {r : dM} {pc : Nat} {L : List (Option Value)} {st : List Value} {σ : rS} {Q : Option Value → rS → Prop} (hd : decode r.2.1 pc = .ok (.getfield 107, 3)) (ho : r.2.2.2.2.2.1 = 16) (K : wG C d r (pc + 3) L (.ref (cad C 50) :: st) σ Q) : wG C d r pc L (.ref (co C) :: st) σ Q := s_get hd ho fl_107 (by decide) gv_50 K
theorem gf_110 {C : rCx} {d : Nat} {r : dM} {pc : Nat} {L : List (Option Value)} {st : List Value} {σ : rS} {Q : Option Value → rS → Prop} (hd : decode r.2.1 pc = .ok (.getfield 110, 3)) (ho : r.2.2.2.2.2.1 = 16) (K : wG C d r (pc + 3) L (.ref (cad C 51) :: st) σ Q) : wG C d r pc L (.ref (co C) :: st) σ Q := s_get hd ho fl_110 (by decide) gv_51 K
theorem gf_113 {C : rCx} {d : Nat} {r : dM} {pc : Nat} {L : List (Option Value)} {st : List Value} {σ : rS} {Q : Option Value → rS → Prop} (hd : decode r.2.1 pc = .ok (.getfield 113, 3)) (ho : r.2.2.2.2.2.1 = 16) (K : wG C d r (pc + 3) L (.ref (cad C 52) :: st) σ Q) : wG C d r pc L (.ref (co C) :: st) σ Q := s_get hd ho fl_113 (by decide) gv_52 K
theorem gf_116 {C : rCx} {d : Nat} {r : dM} {pc : Nat} {L : List (Option Value)} {st : List Value} {σ : rS} {Q : Option Value → rS → Prop} (hd : decode r.2.1 pc = .ok (.getfield 116, 3)) (ho : r.2.2.2.2.2.1 = 16) (K : wG C d r (pc + 3) L (.ref (cad C 54) :: st) σ Q) : wG C d r pc L (.ref (co C) :: st) σ Q := s_get hd ho fl_116 (by decide) gv_54 K
theorem gf_119 {C : rCx} {d : Nat} {r : dM} {pc : Nat} {L : List (Option Value)} {st : List Value} {σ : rS} {Q : Option Value → rS → Prop} (hd : decode r.2.1 pc = .ok (.getfield 119, 3)) (ho : r.2.2.2.2.2.1 = 16) (K : wG C d r (pc + 3) L (.ref (cad C 56) :: st) σ Q) : wG C d r pc L (.ref (co C) :: st) σ Q := s_get hd ho fl_119 (by decide) gv_56 K
theorem gf_122 {C : rCx} {d : Nat} {r : dM} {pc : Nat} {L : List (Option Value)} {st : List Value} {σ : rS} {Q : Option Value → rS → Prop} (hd : decode r.2.1 pc = .ok (.getfield 122, 3)) (ho : r.2.2.2.2.2.1 = 16) (K : wG C d r (pc + 3) L (.ref (cad C 57) :: st) σ Q) : wG C d r pc L (.ref (co C) :: st) σ Q := s_get hd ho fl_122 (by decide) gv_57 K
theorem gf_125 {C : rCx} {d : Nat} {r : dM} {pc : Nat} {L : List (Option Value)} {st : List Value} {σ : rS} {Q : Option Value → rS → Prop} (hd : decode r.2.1 pc = .ok (.getfield 125, 3)) (ho : r.2.2.2.2.2.1 = 16) (K : wG C d r (pc + 3) L (.ref (cad C 59) :: st) σ Q) : wG C d r pc L (.ref (co C) :: st) σ Q := s_get hd ho fl_125 (by decide) gv_59 K
theorem gf_128 {C : rCx} {d : Nat} {r : dM} {pc : Nat} {L : List (Option Value)} {st : List Value} {σ : rS} {Q : Option Value → rS → Prop} (hd : decode r.2.1 pc = .ok (.getfield 128, 3)) (ho : r.2.2.2.2.2.1 = 16) (K : wG C d r (pc + 3) L (.ref (cad C 60) :: st) σ Q) : wG C d r pc L (.ref (co C) :: st) σ Q := s_get hd ho fl_128 (by decide) gv_60 K
theorem gf_131 {C : rCx} {d : Nat} {r : dM} {pc : Nat} {L : List (Option Value)} {st : List Value} {σ : rS} {Q : Option Value → rS → Prop} (hd : decode r.2.1 pc = .ok (.getfield 131, 3)) (ho : r.2.2.2.2.2.1 = 16) (K : wG C d r (pc + 3) L (.ref (cad C 64) :: st) σ Q) : wG C d r pc L (.ref (co C) :: st) σ Q := s_get hd ho fl_131 (by decide) gv_64 K
theorem gf_134 {C : rCx} {d : Nat} {r : dM} {pc : Nat} {L : List (Option Value)} {st : List Value} {σ : rS} {Q : Option Value → rS → Prop} (hd : decode r.2.1 pc = .ok (.getfield 134, 3)) (ho : r.2.2.2.2.2.1 = 16) (K : wG C d r (pc + 3) L (.ref (cad C 65) :: st) σ Q) : wG C d r pc L (.ref (co C) :: st) σ Q := s_get hd ho fl_134 (by decide) gv_65 K
theorem gf_137 {C : rCx} {d : Nat} {r : dM} {pc : Nat} {L : List (Option Value)} {st : List Value} {σ : rS} {Q : Option Value → rS → Prop} (hd : decode r.2.1 pc = .ok (.getfield 137, 3)) (ho : r.2.2.2.2.2.1 = 16) (K : wG C d r (pc + 3) L (.ref (cad C 68) :: st) σ Q) : wG C d r pc L (.ref (co C) :: st) σ Q := s_get hd ho fl_137 (by decide) gv_68 K
theorem gf_141 {C : rCx} {d : Nat} {r : dM} {pc : Nat} {L : List (Option Value)} {st : List Value} {σ : rS} {Q : Option Value → rS → Prop} (hd : decode r.2.1 pc = .ok (.getfield 141, 3)) (ho : r.2.2.2.2.2.1 = 16) (K : wG C d r (pc + 3) L (.ref (cad C 73) :: st) σ Q) : wG C d r pc L (.ref (co C) :: st) σ Q := s_get hd ho fl_141 (by decide) gv_73 K
theorem gf_144 {C : rCx} {d : Nat} {r : dM} {pc : Nat} {L : List (Option Value)} {st : List Value} {σ : rS} {Q : Option Value → rS → Prop} (hd : decode r.2.1 pc = .ok (.getfield 144, 3)) (ho : r.2.2.2.2.2.1 = 16) (K : wG C d r (pc + 3) L (.ref (cad C 74) :: st) σ Q) : wG C d r pc L (.ref (co C) :: st) σ Q := s_get hd ho fl_144 (by decide) gv_74 K
theorem gf_148 {C : rCx} {d : Nat} {r : dM} {pc : Nat} {L : List (Option Value)} {st : List Value} {σ : rS} {Q : Option Value → rS → Prop} (hd : decode r.2.1 pc = .ok (.getfield 148, 3)) (ho : r.2.2.2.2.2.1 = 16) (K : wG C d r (pc + 3) L (.ref (cad C 75) :: st) σ Q) : wG C d r pc L (.ref (co C) :: st) σ Q := s_get hd ho fl_148 (by decide) gv_75 K
theorem gf_151 {C : rCx} {d : Nat} {r : dM} {pc : Nat} {L : List (Option Value)} {st : List Value} {σ : rS} {Q : Option Value → rS → Prop} (hd : decode r.2.1 pc = .ok (.getfield 151, 3)) (ho : r.2.2.2.2.2.1 = 16) (K : wG C d r (pc + 3) L (.ref (cad C 76) :: st) σ Q) : wG C d r pc L (.ref (co C) :: st) σ Q := s_get hd ho fl_151 (by decide) gv_76 K
theorem gf_154 {C : rCx} {d : Nat} {r : dM} {pc : Nat} {L : List (Option Value)} {st : List Value} {σ : rS} {Q : Option Value → rS → Prop} (hd : decode r.2.1 pc = .ok (.getfield 154, 3)) (ho : r.2.2.2.2.2.1 = 16) (K : wG C d r (pc + 3) L (.ref (cad C 77) :: st) σ Q) : wG C d r pc L (.ref (co C) :: st) σ Q := s_get hd ho fl_154 (by decide) gv_77 K
theorem gf_157 {C : rCx} {d : Nat} {r : dM} {pc : Nat} {L : List (Option Value)} {st : List Value} {σ : rS} {Q : Option Value → rS → Prop} (hd : decode r.2.1 pc = .ok (.getfield 157, 3)) (ho : r.2.2.2.2.2.1 = 16) (K : wG C d r (pc + 3) L (.ref (cad C 78) :: st) σ Q) : wG C d r pc L (.ref (co C) :: st) σ Q := s_get hd ho fl_157 (by decide) gv_78 K
theorem gf_160 {C : rCx} {d : Nat} {r : dM} {pc : Nat} {L : List (Option Value)} {st : List Value} {σ : rS} {Q : Option Value → rS → Prop} (hd : decode r.2.1 pc = .ok (.getfield 160, 3)) (ho : r.2.2.2.2.2.1 = 16) (K : wG C d r (pc + 3) L (.ref (cad C 79) :: st) σ Q) : wG C d r pc L (.ref (co C) :: st) σ Q := s_get hd ho fl_160 (by decide) gv_79 K
theorem gf_163 {C : rCx} {d : Nat} {r : dM} {pc : Nat} {L : List (Option Value)} {st : List Value} {σ : rS} {Q : Option Value → rS → Prop} (hd : decode r.2.1 pc = .ok (.getfield 163, 3)) (ho : r.2.2.2.2.2.1 = 16) (K : wG C d r (pc + 3) L (.ref (cad C 80) :: st) σ Q) : wG C d r pc L (.ref (co C) :: st) σ Q := s_get hd ho fl_163 (by decide) gv_80 K
theorem gf_166 {C : rCx} {d : Nat} {r : dM} {pc : Nat} {L : List (Option Value)} {st : List Value} {σ : rS} {Q : Option Value → rS → Prop} (hd : decode r.2.1 pc = .ok (.getfield 166, 3)) (ho : r.2.2.2.2.2.1 = 16) (K : wG C d r (pc + 3) L (.ref (cad C 81) :: st) σ Q) : wG C d r pc L (.ref (co C) :: st) σ Q := s_get hd ho fl_166 (by decide) gv_81 K
theorem gf_169 {C : rCx} {d : Nat} {r : dM} {pc : Nat} {L : List (Option Value)} {st : List Value} {σ : rS} {Q : Option Value → rS → Prop} (hd : decode r.2.1 pc = .ok (.getfield 169, 3)) (ho : r.2.2.2.2.2.1 = 16) (K : wG C d r (pc + 3) L (.ref (cad C 82) :: st) σ Q) : wG C d r pc L (.ref (co C) :: st) σ Q := s_get hd ho fl_169 (by decide) gv_82 K
theorem gf_172 {C : rCx} {d : Nat} {r : dM} {pc : Nat} {L : List (Option Value)} {st : List Value} {σ : rS} {Q : Option Value → rS → Prop} (hd : decode r.2.1 pc = .ok (.getfield 172, 3)) (ho : r.2.2.2.2.2.1 = 16) (K : wG C d r (pc + 3) L (.ref (cad C 83) :: st) σ Q) : wG C d r pc L (.ref (co C) :: st) σ Q := s_get hd ho fl_172 (by decide) gv_83 K
theorem gf_175 {C : rCx} {d : Nat} {r : dM} {pc : Nat} {L : List (Option Value)} {st : List Value} {σ : rS} {Q : Option Value → rS → Prop} (hd : decode r.2.1 pc = .ok (.getfield 175, 3)) (ho : r.2.2.2.2.2.1 = 16) (K : wG C d r (pc + 3) L (.ref (cad C 84) :: st) σ Q) : wG C d r pc L (.ref (co C) :: st) σ Q := s_get hd ho fl_175 (by decide) gv_84 K
theorem gf_178 {C : rCx} {d : Nat} {r : dM} {pc : Nat} {L : List (Option Value)} {st : List Value} {σ : rS} {Q : Option Value → rS → Prop} (hd : decode r.2.1 pc = .ok (.getfield 178, 3)) (ho : r.2.2.2.2.2.1 = 16) (K : wG C d r (pc + 3) L (.ref (cad C 86) :: st) σ Q) : wG C d r pc L (.ref (co C) :: st) σ Q := s_get hd ho fl_178 (by decide) gv_86 K
theorem gf_181 {C : rCx} {d : Nat} {r : dM} {pc : Nat} {L : List (Option Value)} {st : List Value} {σ : rS} {Q : Option Value → rS → Prop} (hd : decode r.2.1 pc = .ok (.getfield 181, 3)) (ho : r.2.2.2.2.2.1 = 16) (K : wG C d r (pc + 3) L (.ref (cad C 87) :: st) σ Q) : wG C d r pc L (.ref (co C) :: st) σ Q := s_get hd ho fl_181 (by decide) gv_87 K
theorem gf_185 {C : rCx} {d : Nat} {r : dM} {pc : Nat} {L : List (Option Value)} {st : List Value} {σ : rS} {Q : Option Value → rS → Prop} (hd : decode r.2.1 pc = .ok (.getfield 185, 3)) (ho : r.2.2.2.2.2.1 = 16) (K : wG C d r (pc + 3) L (.ref (cad C 90) :: st) σ Q) : wG C d r pc L (.ref (co C) :: st) σ Q := s_get hd ho fl_185 (by decide) gv_90 K
theorem gf_188 {C : rCx} {d : Nat} {r : dM} {pc : Nat} {L : List (Option Value)} {st : List Value} {σ : rS} {Q : Option Value → rS → Prop} (hd : decode r.2.1 pc = .ok (.getfield 188, 3)) (ho : r.2.2.2.2.2.1 = 16) (K : wG C d r (pc + 3) L (.ref (cad C 91) :: st) σ Q) : wG C d r pc L (.ref (co C) :: st) σ Q := s_get hd ho fl_188 (by decide) gv_91 K
theorem gf_192 {C : rCx} {d : Nat} {r : dM} {pc : Nat} {L : List (Option Value)} {st : List Value} {σ : rS} {Q : Option Value → rS → Prop} (hd : decode r.2.1 pc = .ok (.getfield 192, 3)) (ho : r.2.2.2.2.2.1 = 16) (K : wG C d r (pc + 3) L (.ref (cad C 93) :: st) σ Q) : wG C d r pc L (.ref (co C) :: st) σ Q := s_get hd ho fl_192 (by decide) gv_93 K
theorem gf_195 {C : rCx} {d : Nat} {r : dM} {pc : Nat} {L : List (Option Value)} {st : List Value} {σ : rS} {Q : Option Value → rS → Prop} (hd : decode r.2.1 pc = .ok (.getfield 195, 3)) (ho : r.2.2.2.2.2.1 = 16) (K : wG C d r (pc + 3) L (.ref (cad C 95) :: st) σ Q) : wG C d r pc L (.ref (co C) :: st) σ Q := s_get hd ho fl_195 (by decide) gv_95 K
theorem gf_198 {C : rCx} {d : Nat} {r : dM} {pc : Nat} {L : List (Option Value)} {st : List Value} {σ : rS} {Q : Option Value → rS → Prop} (hd : decode r.2.1 pc = .ok (.getfield 198, 3)) (ho : r.2.2.2.2.2.1 = 16) (K : wG C d r (pc + 3) L (.ref (cad C 96) :: st) σ Q) : wG C d r pc L (.ref (co C) :: st) σ Q := s_get hd ho fl_198 (by decide) gv_96 K
theorem gf_201 {C : rCx} {d : Nat} {r : dM} {pc : Nat} {L : List (Option Value)} {st : List Value} {σ : rS} {Q : Option Value → rS → Prop} (hd : decode r.2.1 pc = .ok (.getfield 201, 3)) (ho : r.2.2.2.2.2.1 = 16) (K : wG C d r (pc + 3) L (.ref (cad C 97) :: st) σ Q) : wG C d r pc L (.ref (co C) :: st) σ Q := s_get hd ho fl_201 (by decide) gv_97 K
theorem gf_204 {C : rCx} {d : Nat} {r : dM} {pc : Nat} {L : List (Option Value)} {st : List Value} {σ : rS} {Q : Option Value → rS → Prop} (hd : decode r.2.1 pc = .ok (.getfield 204, 3)) (ho : r.2.2.2.2.2.1 = 16) (K : wG C d r (pc + 3) L (.ref (cad C 98) :: st) σ Q) : wG C d r pc L (.ref (co C) :: st) σ Q := s_get hd ho fl_204 (by decide) gv_98 K
theorem gf_207 {C : rCx} {d : Nat} {r : dM} {pc : Nat} {L : List (Option Value)} {st : List Value} {σ : rS} {Q : Option Value → rS → Prop} (hd : decode r.2.1 pc = .ok (.getfield 207, 3)) (ho : r.2.2.2.2.2.1 = 16) (K : wG C d r (pc + 3) L (.ref (cad C 99) :: st) σ Q) : wG C d r pc L (.ref (co C) :: st) σ Q := s_get hd ho fl_207 (by decide) gv_99 K
theorem gf_214 {C : rCx} {d : Nat} {r : dM} {pc : Nat} {L : List (Option Value)} {st : List Value} {σ : rS} {Q : Option Value → rS → Prop} (hd : decode r.2.1 pc = .ok (.getfield 214, 3)) (ho : r.2.2.2.2.2.1 = 16) (K : wG C d r (pc + 3) L (.ref (cad C 102) :: st) σ Q) : wG C d r pc L (.ref (co C) :: st) σ Q := s_get hd ho fl_214 (by decide) gv_102 K
theorem gf_217 {C : rCx} {d : Nat} {r : dM} {pc : Nat} {L : List (Option Value)} {st : List Value} {σ : rS} {Q : Option Value → rS → Prop} (hd : decode r.2.1 pc = .ok (.getfield 217, 3)) (ho : r.2.2.2.2.2.1 = 16) (K : wG C d r (pc + 3) L (.ref (cad C 105) :: st) σ Q) : wG C d r pc L (.ref (co C) :: st) σ Q := s_get hd ho fl_217 (by decide) gv_105 K
theorem gf_220 {C : rCx} {d : Nat} {r : dM} {pc : Nat} {L : List (Option Value)} {st : List Value} {σ : rS} {Q : Option Value → rS → Prop} (hd : decode r.2.1 pc = .ok (.getfield 220, 3)) (ho : r.2.2.2.2.2.1 = 16) (K : wG C d r (pc + 3) L (.int (σ.1 106) :: st) σ Q) : wG C d r pc L (.ref (co C) :: st) σ Q := s_get hd ho fl_220 (by decide) gv_106 K
theorem gf_223 {C : rCx} {d : Nat} {r : dM} {pc : Nat} {L : List (Option Value)} {st : List Value} {σ : rS} {Q : Option Value → rS → Prop} (hd : decode r.2.1 pc = .ok (.getfield 223, 3)) (ho : r.2.2.2.2.2.1 = 16) (K : wG C d r (pc + 3) L (.ref (cad C 111) :: st) σ Q) : wG C d r pc L (.ref (co C) :: st) σ Q := s_get hd ho fl_223 (by decide) gv_111 K
theorem gf_226 {C : rCx} {d : Nat} {r : dM} {pc : Nat} {L : List (Option Value)} {st : List Value} {σ : rS} {Q : Option Value → rS → Prop} (hd : decode r.2.1 pc = .ok (.getfield 226, 3)) (ho : r.2.2.2.2.2.1 = 16) (K : wG C d r (pc + 3) L (.ref (cad C 115) :: st) σ Q) : wG C d r pc L (.ref (co C) :: st) σ Q := s_get hd ho fl_226 (by decide) gv_115 K
theorem gf_229 {C : rCx} {d : Nat} {r : dM} {pc : Nat} {L : List (Option Value)} {st : List Value} {σ : rS} {Q : Option Value → rS → Prop} (hd : decode r.2.1 pc = .ok (.getfield 229, 3)) (ho : r.2.2.2.2.2.1 = 16) (K : wG C d r (pc + 3) L (.ref (cad C 116) :: st) σ Q) : wG C d r pc L (.ref (co C) :: st) σ Q := s_get hd ho fl_229 (by decide) gv_116 K
theorem gf_232 {C : rCx} {d : Nat} {r : dM} {pc : Nat} {L : List (Option Value)} {st : List Value} {σ : rS} {Q : Option Value → rS → Prop} (hd : decode r.2.1 pc = .ok (.getfield 232, 3)) (ho : r.2.2.2.2.2.1 = 16) (K : wG C d r (pc + 3) L (.ref (cad C 117) :: st) σ Q) : wG C d r pc L (.ref (co C) :: st) σ Q := s_get hd ho fl_232 (by decide) gv_117 K
theorem gf_235 {C : rCx} {d : Nat} {r : dM} {pc : Nat} {L : List (Option Value)} {st : List Value} {σ : rS} {Q : Option Value → rS → Prop} (hd : decode r.2.1 pc = .ok (.getfield 235, 3)) (ho : r.2.2.2.2.2.1 = 16) (K : wG C d r (pc + 3) L (.ref (cad C 118) :: st) σ Q) : wG C d r pc L (.ref (co C) :: st) σ Q := s_get hd ho fl_235 (by decide) gv_118 K
theorem gf_238 {C : rCx} {d : Nat} {r : dM} {pc : Nat} {L : List (Option Value)} {st : List Value} {σ : rS} {Q : Option Value → rS → Prop} (hd : decode r.2.1 pc = .ok (.getfield 238, 3)) (ho : r.2.2.2.2.2.1 = 16) (K : wG C d r (pc + 3) L (.ref (cad C 119) :: st) σ Q) : wG C d r pc L (.ref (co C) :: st) σ Q := s_get hd ho fl_238 (by decide) gv_119 K
theorem gf_241 {C : rCx} {d : Nat} {r : dM} {pc : Nat} {L : List (Option Value)} {st : List Value} {σ : rS} {Q : Option Value → rS → Prop} (hd : decode r.2.1 pc = .ok (.getfield 241, 3)) (ho : r.2.2.2.2.2.1 = 16) (K : wG C d r (pc + 3) L (.ref (cad C 120) :: st) σ Q) : wG C d r pc L (.ref (co C) :: st) σ Q := s_get hd ho fl_241 (by decide) gv_120 K
theorem gf_244 {C : rCx} {d : Nat} {r : dM} {pc : Nat} {L : List (Option Value)} {st : List Value} {σ : rS} {Q : Option Value → rS → Prop} (hd : decode r.2.1 pc = .ok (.getfield 244, 3)) (ho : r.2.2.2.2.2.1 = 16) (K : wG C d r (pc + 3) L (.ref (cad C 121) :: st) σ Q) : wG C d r pc L (.ref (co C) :: st) σ Q := s_get hd ho fl_244 (by decide) gv_121 K
theorem gf_247 {C : rCx} {d : Nat} {r : dM} {pc : Nat} {L : List (Option Value)} {st : List Value} {σ : rS} {Q : Option Value → rS → Prop} (hd : decode r.2.1 pc = .ok (.getfield 247, 3)) (ho : r.2.2.2.2.2.1 = 16) (K : wG C d r (pc + 3) L (.ref (cad C 122) :: st) σ Q) : wG C d r pc L (.ref (co C) :: st) σ Q := s_get hd ho fl_247 (by decide) gv_122 K
theorem gf_250 {C : rCx} {d : Nat} {r : dM} {pc : Nat} {L : List (Option Value)} {st : List Value} {σ : rS} {Q : Option Value → rS → Prop} (hd : decode r.2.1 pc = .ok (.getfield 250, 3)) (ho : r.2.2.2.2.2.1 = 16) (K : wG C d r (pc + 3) L (.ref (cad C 123) :: st) σ Q) : wG C d r pc L (.ref (co C) :: st) σ Q := s_get hd ho fl_250 (by decide) gv_123 K
theorem gf_253 {C : rCx} {d : Nat} {r : dM} {pc : Nat} {L : List (Option Value)} {st : List Value} {σ : rS} {Q : Option Value → rS → Prop} (hd : decode r.2.1 pc = .ok (.getfield 253, 3)) (ho : r.2.2.2.2.2.1 = 16) (K : wG C d r (pc + 3) L (.int (σ.1 2) :: st) σ Q) : wG C d r pc L (.ref (co C) :: st) σ Q := s_get hd ho fl_253 (by decide) gv_2 K
theorem gf_281 {C : rCx} {d : Nat} {r : dM} {pc : Nat} {L : List (Option Value)} {st : List Value} {σ : rS} {Q : Option Value → rS → Prop} (hd : decode r.2.1 pc = .ok (.getfield 281, 3)) (ho : r.2.2.2.2.2.1 = 16) (K : wG C d r (pc + 3) L (.int (σ.1 3) :: st) σ Q) : wG C d r pc L (.ref (co C) :: st) σ Q := s_get hd ho fl_281 (by decide) gv_3 K
theorem gf_284 {C : rCx} {d : Nat} {r : dM} {pc : Nat} {L : List (Option Value)} {st : List Value} {σ : rS} {Q : Option Value → rS → Prop} (hd : decode r.2.1 pc = .ok (.getfield 284, 3)) (ho : r.2.2.2.2.2.1 = 16) (K : wG C d r (pc + 3) L (.int (σ.1 4) :: st) σ Q) : wG C d r pc L (.ref (co C) :: st) σ Q := s_get hd ho fl_284 (by decide) gv_4 K
theorem gf_300 {C : rCx} {d : Nat} {r : dM} {pc : Nat} {L : List (Option Value)} {st : List Value} {σ : rS} {Q : Option Value → rS → Prop} (hd : decode r.2.1 pc = .ok (.getfield 300, 3)) (ho : r.2.2.2.2.2.1 = 16) (K : wG C d r (pc + 3) L (.int (σ.1 11) :: st) σ Q) : wG C d r pc L (.ref (co C) :: st) σ Q := s_get hd ho fl_300 (by decide) gv_11 K
theorem gf_303 {C : rCx} {d : Nat} {r : dM} {pc : Nat} {L : List (Option Value)} {st : List Value} {σ : rS} {Q : Option Value → rS → Prop} (hd : decode r.2.1 pc = .ok (.getfield 303, 3)) (ho : r.2.2.2.2.2.1 = 16) (K : wG C d r (pc + 3) L (.int (σ.1 12) :: st) σ Q) : wG C d r pc L (.ref (co C) :: st) σ Q := s_get hd ho fl_303 (by decide) gv_12 K
theorem gf_306 {C : rCx} {d : Nat} {r : dM} {pc : Nat} {L : List (Option Value)} {st : List Value} {σ : rS} {Q : Option Value → rS → Prop} (hd : decode r.2.1 pc = .ok (.getfield 306, 3)) (ho : r.2.2.2.2.2.1 = 16) (K : wG C d r (pc + 3) L (.int (σ.1 10) :: st) σ Q) : wG C d r pc L (.ref (co C) :: st) σ Q := s_get hd ho fl_306 (by decide) gv_10 K
theorem gf_322 {C : rCx} {d : Nat} {r : dM} {pc : Nat} {L : List (Option Value)} {st : List Value} {σ : rS} {Q : Option Value → rS → Prop} (hd : decode r.2.1 pc = .ok (.getfield 322, 3)) (ho : r.2.2.2.2.2.1 = 16) (K : wG C d r (pc + 3) L (.int (σ.1 13) :: st) σ Q) : wG C d r pc L (.ref (co C) :: st) σ Q := s_get hd ho fl_322 (by decide) gv_13 K
theorem gf_333 {C : rCx} {d : Nat} {r : dM} {pc : Nat} {L : List (Option Value)} {st : List Value} {σ : rS} {Q : Option Value → rS → Prop} (hd : decode r.2.1 pc = .ok (.getfield 333, 3)) (ho : r.2.2.2.2.2.1 = 16) (K : wG C d r (pc + 3) L (.int (σ.1 15) :: st) σ Q) : wG C d r pc L (.ref (co C) :: st) σ Q := s_get hd ho fl_333 (by decide) gv_15 K
theorem gf_340 {C : rCx} {d : Nat} {r : dM} {pc : Nat} {L : List (Option Value)} {st : List Value} {σ : rS} {Q : Option Value → rS → Prop} (hd : decode r.2.1 pc = .ok (.getfield 340, 3)) (ho : r.2.2.2.2.2.1 = 16) (K : wG C d r (pc + 3) L (.int (σ.1 16) :: st) σ Q) : wG C d r pc L (.ref (co C) :: st) σ Q := s_get hd ho fl_340 (by decide) gv_16 K
theorem gf_343 {C : rCx} {d : Nat} {r : dM} {pc : Nat} {L : List (Option Value)} {st : List Value} {σ : rS} {Q : Option Value → rS → Prop} (hd : decode r.2.1 pc = .ok (.getfield 343, 3)) (ho : r.2.2.2.2.2.1 = 16) (K : wG C d r (pc + 3) L (.int (σ.1 18) :: st) σ Q) : wG C d r pc L (.ref (co C) :: st) σ Q := s_get hd ho fl_343 (by decide) gv_18 K
theorem gf_346 {C : rCx} {d : Nat} {r : dM} {pc : Nat} {L : List (Option Value)} {st : List Value} {σ : rS} {Q : Option Value → rS → Prop} (hd : decode r.2.1 pc = .ok (.getfield 346, 3)) (ho : r.2.2.2.2.2.1 = 16) (K : wG C d r (pc + 3) L (.int (σ.1 41) :: st) σ Q) : wG C d r pc L (.ref (co C) :: st) σ Q := s_get hd ho fl_346 (by decide) gv_41 K
theorem gf_369 {C : rCx} {d : Nat} {r : dM} {pc : Nat} {L : List (Option Value)} {st : List Value} {σ : rS} {Q : Option Value → rS → Prop} (hd : decode r.2.1 pc = .ok (.getfield 369, 3)) (ho : r.2.2.2.2.2.1 = 16) (K : wG C d r (pc + 3) L (.int (σ.1 17) :: st) σ Q) : wG C d r pc L (.ref (co C) :: st) σ Q := s_get hd ho fl_369 (by decide) gv_17 K
theorem gf_375 {C : rCx} {d : Nat} {r : dM} {pc : Nat} {L : List (Option Value)} {st : List Value} {σ : rS} {Q : Option Value → rS → Prop} (hd : decode r.2.1 pc = .ok (.getfield 375, 3)) (ho : r.2.2.2.2.2.1 = 16) (K : wG C d r (pc + 3) L (.int (σ.1 42) :: st) σ Q) : wG C d r pc L (.ref (co C) :: st) σ Q := s_get hd ho fl_375 (by decide) gv_42 K
theorem gf_378 {C : rCx} {d : Nat} {r : dM} {pc : Nat} {L : List (Option Value)} {st : List Value} {σ : rS} {Q : Option Value → rS → Prop} (hd : decode r.2.1 pc = .ok (.getfield 378, 3)) (ho : r.2.2.2.2.2.1 = 16) (K : wG C d r (pc + 3) L (.int (σ.1 19) :: st) σ Q) : wG C d r pc L (.ref (co C) :: st) σ Q := s_get hd ho fl_378 (by decide) gv_19 K
theorem gf_425 {C : rCx} {d : Nat} {r : dM} {pc : Nat} {L : List (Option Value)} {st : List Value} {σ : rS} {Q : Option Value → rS → Prop} (hd : decode r.2.1 pc = .ok (.getfield 425, 3)) (ho : r.2.2.2.2.2.1 = 16) (K : wG C d r (pc + 3) L (.int (σ.1 48) :: st) σ Q) : wG C d r pc L (.ref (co C) :: st) σ Q := s_get hd ho fl_425 (by decide) gv_48 K
theorem gf_428 {C : rCx} {d : Nat} {r : dM} {pc : Nat} {L : List (Option Value)} {st : List Value} {σ : rS} {Q : Option Value → rS → Prop} (hd : decode r.2.1 pc = .ok (.getfield 428, 3)) (ho : r.2.2.2.2.2.1 = 16) (K : wG C d r (pc + 3) L (.int (σ.1 47) :: st) σ Q) : wG C d r pc L (.ref (co C) :: st) σ Q := s_get hd ho fl_428 (by decide) gv_47 K
theorem gf_435 {C : rCx} {d : Nat} {r : dM} {pc : Nat} {L : List (Option Value)} {st : List Value} {σ : rS} {Q : Option Value → rS → Prop} (hd : decode r.2.1 pc = .ok (.getfield 435, 3)) (ho : r.2.2.2.2.2.1 = 16) (K : wG C d r (pc + 3) L (.int (σ.1 49) :: st) σ Q) : wG C d r pc L (.ref (co C) :: st) σ Q := s_get hd ho fl_435 (by decide) gv_49 K
theorem gf_438 {C : rCx} {d : Nat} {r : dM} {pc : Nat} {L : List (Option Value)} {st : List Value} {σ : rS} {Q : Option Value → rS → Prop} (hd : decode r.2.1 pc = .ok (.getfield 438, 3)) (ho : r.2.2.2.2.2.1 = 16) (K : wG C d r (pc + 3) L (.int (σ.1 46) :: st) σ Q) : wG C d r pc L (.ref (co C) :: st) σ Q := s_get hd ho fl_438 (by decide) gv_46 K
theorem gf_484 {C : rCx} {d : Nat} {r : dM} {pc : Nat} {L : List (Option Value)} {st : List Value} {σ : rS} {Q : Option Value → rS → Prop} (hd : decode r.2.1 pc = .ok (.getfield 484, 3)) (ho : r.2.2.2.2.2.1 = 16) (K : wG C d r (pc + 3) L (.int (σ.1 55) :: st) σ Q) : wG C d r pc L (.ref (co C) :: st) σ Q := s_get hd ho fl_484 (by decide) gv_55 K
theorem gf_487 {C : rCx} {d : Nat} {r : dM} {pc : Nat} {L : List (Option Value)} {st : List Value} {σ : rS} {Q : Option Value → rS → Prop} (hd : decode r.2.1 pc = .ok (.getfield 487, 3)) (ho : r.2.2.2.2.2.1 = 16) (K : wG C d r (pc + 3) L (.int (σ.1 40) :: st) σ Q) : wG C d r pc L (.ref (co C) :: st) σ Q := s_get hd ho fl_487 (by decide) gv_40 K
theorem gf_526 {C : rCx} {d : Nat} {r : dM} {pc : Nat} {L : List (Option Value)} {st : List Value} {σ : rS} {Q : Option Value → rS → Prop} (hd : decode r.2.1 pc = .ok (.getfield 526, 3)) (ho : r.2.2.2.2.2.1 = 16) (K : wG C d r (pc + 3) L (.int (σ.1 53) :: st) σ Q) : wG C d r pc L (.ref (co C) :: st) σ Q := s_get hd ho fl_526 (by decide) gv_53 K
theorem gf_529 {C : rCx} {d : Nat} {r : dM} {pc : Nat} {L : List (Option Value)} {st : List Value} {σ : rS} {Q : Option Value → rS → Prop} (hd : decode r.2.1 pc = .ok (.getfield 529, 3)) (ho : r.2.2.2.2.2.1 = 16) (K : wG C d r (pc + 3) L (.int (σ.1 14) :: st) σ Q) : wG C d r pc L (.ref (co C) :: st) σ Q := s_get hd ho fl_529 (by decide) gv_14 K
theorem gf_533 {C : rCx} {d : Nat} {r : dM} {pc : Nat} {L : List (Option Value)} {st : List Value} {σ : rS} {Q : Option Value → rS → Prop} (hd : decode r.2.1 pc = .ok (.getfield 533, 3)) (ho : r.2.2.2.2.2.1 = 16) (K : wG C d r (pc + 3) L (.int (σ.1 69) :: st) σ Q) : wG C d r pc L (.ref (co C) :: st) σ Q := s_get hd ho fl_533 (by decide) gv_69 K
theorem gf_536 {C : rCx} {d : Nat} {r : dM} {pc : Nat} {L : List (Option Value)} {st : List Value} {σ : rS} {Q : Option Value → rS → Prop} (hd : decode r.2.1 pc = .ok (.getfield 536, 3)) (ho : r.2.2.2.2.2.1 = 16) (K : wG C d r (pc + 3) L (.int (σ.1 94) :: st) σ Q) : wG C d r pc L (.ref (co C) :: st) σ Q := s_get hd ho fl_536 (by decide) gv_94 K
theorem gf_539 {C : rCx} {d : Nat} {r : dM} {pc : Nat} {L : List (Option Value)} {st : List Value} {σ : rS} {Q : Option Value → rS → Prop} (hd : decode r.2.1 pc = .ok (.getfield 539, 3)) (ho : r.2.2.2.2.2.1 = 16) (K : wG C d r (pc + 3) L (.int (σ.1 114) :: st) σ Q) : wG C d r pc L (.ref (co C) :: st) σ Q := s_get hd ho fl_539 (by decide) gv_114 K
theorem gf_542 {C : rCx} {d : Nat} {r : dM} {pc : Nat} {L : List (Option Value)} {st : List Value} {σ : rS} {Q : Option Value → rS → Prop} (hd : decode r.2.1 pc = .ok (.getfield 542, 3)) (ho : r.2.2.2.2.2.1 = 16) (K : wG C d r (pc + 3) L (.int (σ.1 70) :: st) σ Q) : wG C d r pc L (.ref (co C) :: st) σ Q := s_get hd ho fl_542 (by decide) gv_70 K
theorem gf_545 {C : rCx} {d : Nat} {r : dM} {pc : Nat} {L : List (Option Value)} {st : List Value} {σ : rS} {Q : Option Value → rS → Prop} (hd : decode r.2.1 pc = .ok (.getfield 545, 3)) (ho : r.2.2.2.2.2.1 = 16) (K : wG C d r (pc + 3) L (.int (σ.1 71) :: st) σ Q) : wG C d r pc L (.ref (co C) :: st) σ Q := s_get hd ho fl_545 (by decide) gv_71 K
theorem gf_548 {C : rCx} {d : Nat} {r : dM} {pc : Nat} {L : List (Option Value)} {st : List Value} {σ : rS} {Q : Option Value → rS → Prop} (hd : decode r.2.1 pc = .ok (.getfield 548, 3)) (ho : r.2.2.2.2.2.1 = 16) (K : wG C d r (pc + 3) L (.int (σ.1 72) :: st) σ Q) : wG C d r pc L (.ref (co C) :: st) σ Q := s_get hd ho fl_548 (by decide) gv_72 K
theorem gf_551 {C : rCx} {d : Nat} {r : dM} {pc : Nat} {L : List (Option Value)} {st : List Value} {σ : rS} {Q : Option Value → rS → Prop} (hd : decode r.2.1 pc = .ok (.getfield 551, 3)) (ho : r.2.2.2.2.2.1 = 16) (K : wG C d r (pc + 3) L (.int (σ.1 58) :: st) σ Q) : wG C d r pc L (.ref (co C) :: st) σ Q := s_get hd ho fl_551 (by decide) gv_58 K
theorem gf_554 {C : rCx} {d : Nat} {r : dM} {pc : Nat} {L : List (Option Value)} {st : List Value} {σ : rS} {Q : Option Value → rS → Prop} (hd : decode r.2.1 pc = .ok (.getfield 554, 3)) (ho : r.2.2.2.2.2.1 = 16) (K : wG C d r (pc + 3) L (.int (σ.1 61) :: st) σ Q) : wG C d r pc L (.ref (co C) :: st) σ Q := s_get hd ho fl_554 (by decide) gv_61 K
theorem gf_566 {C : rCx} {d : Nat} {r : dM} {pc : Nat} {L : List (Option Value)} {st : List Value} {σ : rS} {Q : Option Value → rS → Prop} (hd : decode r.2.1 pc = .ok (.getfield 566, 3)) (ho : r.2.2.2.2.2.1 = 16) (K : wG C d r (pc + 3) L (.int (σ.1 67) :: st) σ Q) : wG C d r pc L (.ref (co C) :: st) σ Q := s_get hd ho fl_566 (by decide) gv_67 K
theorem gf_575 {C : rCx} {d : Nat} {r : dM} {pc : Nat} {L : List (Option Value)} {st : List Value} {σ : rS} {Q : Option Value → rS → Prop} (hd : decode r.2.1 pc = .ok (.getfield 575, 3)) (ho : r.2.2.2.2.2.1 = 16) (K : wG C d r (pc + 3) L (.int (σ.1 63) :: st) σ Q) : wG C d r pc L (.ref (co C) :: st) σ Q := s_get hd ho fl_575 (by decide) gv_63 K
theorem gf_581 {C : rCx} {d : Nat} {r : dM} {pc : Nat} {L : List (Option Value)} {st : List Value} {σ : rS} {Q : Option Value → rS → Prop} (hd : decode r.2.1 pc = .ok (.getfield 581, 3)) (ho : r.2.2.2.2.2.1 = 16) (K : wG C d r (pc + 3) L (.int (σ.1 66) :: st) σ Q) : wG C d r pc L (.ref (co C) :: st) σ Q := s_get hd ho fl_581 (by decide) gv_66 K
theorem gf_585 {C : rCx} {d : Nat} {r : dM} {pc : Nat} {L : List (Option Value)} {st : List Value} {σ : rS} {Q : Option Value → rS → Prop} (hd : decode r.2.1 pc = .ok (.getfield 585, 3)) (ho : r.2.2.2.2.2.1 = 16) (K : wG C d r (pc + 3) L (.int (σ.1 62) :: st) σ Q) : wG C d r pc L (.ref (co C) :: st) σ Q := s_get hd ho fl_585 (by decide) gv_62 K
theorem gf_609 {C : rCx} {d : Nat} {r : dM} {pc : Nat} {L : List (Option Value)} {st : List Value} {σ : rS} {Q : Option Value → rS → Prop} (hd : decode r.2.1 pc = .ok (.getfield 609, 3)) (ho : r.2.2.2.2.2.1 = 16) (K : wG C d r (pc + 3) L (.int (σ.1 85) :: st) σ Q) : wG C d r pc L (.ref (co C) :: st) σ Q := s_get hd ho fl_609 (by decide) gv_85 K
theorem gf_658 {C : rCx} {d : Nat} {r : dM} {pc : Nat} {L : List (Option Value)} {st : List Value} {σ : rS} {Q : Option Value → rS → Prop} (hd : decode r.2.1 pc = .ok (.getfield 658, 3)) (ho : r.2.2.2.2.2.1 = 16) (K : wG C d r (pc + 3) L (.int (σ.1 88) :: st) σ Q) : wG C d r pc L (.ref (co C) :: st) σ Q := s_get hd ho fl_658 (by decide) gv_88 K
theorem gf_661 {C : rCx} {d : Nat} {r : dM} {pc : Nat} {L : List (Option Value)} {st : List Value} {σ : rS} {Q : Option Value → rS → Prop} (hd : decode r.2.1 pc = .ok (.getfield 661, 3)) (ho : r.2.2.2.2.2.1 = 16) (K : wG C d r (pc + 3) L (.int (σ.1 89) :: st) σ Q) : wG C d r pc L (.ref (co C) :: st) σ Q := s_get hd ho fl_661 (by decide) gv_89 K
theorem gf_710 {C : rCx} {d : Nat} {r : dM} {pc : Nat} {L : List (Option Value)} {st : List Value} {σ : rS} {Q : Option Value → rS → Prop} (hd : decode r.2.1 pc = .ok (.getfield 710, 3)) (ho : r.2.2.2.2.2.1 = 16) (K : wG C d r (pc + 3) L (.int (σ.1 92) :: st) σ Q) : wG C d r pc L (.ref (co C) :: st) σ Q := s_get hd ho fl_710 (by decide) gv_92 K
theorem gf_755 {C : rCx} {d : Nat} {r : dM} {pc : Nat} {L : List (Option Value)} {st : List Value} {σ : rS} {Q : Option Value → rS → Prop} (hd : decode r.2.1 pc = .ok (.getfield 755, 3)) (ho : r.2.2.2.2.2.1 = 16) (K : wG C d r (pc + 3) L (.int (σ.1 100) :: st) σ Q) : wG C d r pc L (.ref (co C) :: st) σ Q := s_get hd ho fl_755 (by decide) gv_100 K
theorem gf_821 {C : rCx} {d : Nat} {r : dM} {pc : Nat} {L : List (Option Value)} {st : List Value} {σ : rS} {Q : Option Value → rS → Prop} (hd : decode r.2.1 pc = .ok (.getfield 821, 3)) (ho : r.2.2.2.2.2.1 = 16) (K : wG C d r (pc + 3) L (.int (σ.1 103) :: st) σ Q) : wG C d r pc L (.ref (co C) :: st) σ Q := s_get hd ho fl_821 (by decide) gv_103 K
theorem gf_827 {C : rCx} {d : Nat} {r : dM} {pc : Nat} {L : List (Option Value)} {st : List Value} {σ : rS} {Q : Option Value → rS → Prop} (hd : decode r.2.1 pc = .ok (.getfield 827, 3)) (ho : r.2.2.2.2.2.1 = 16) (K : wG C d r (pc + 3) L (.int (σ.1 104) :: st) σ Q) : wG C d r pc L (.ref (co C) :: st) σ Q := s_get hd ho fl_827 (by decide) gv_104 K
theorem gf_830 {C : rCx} {d : Nat} {r : dM} {pc : Nat} {L : List (Option Value)} {st : List Value} {σ : rS} {Q : Option Value → rS → Prop} (hd : decode r.2.1 pc = .ok (.getfield 830, 3)) (ho : r.2.2.2.2.2.1 = 16) (K : wG C d r (pc + 3) L (.int (σ.1 113) :: st) σ Q) : wG C d r pc L (.ref (co C) :: st) σ Q := s_get hd ho fl_830 (by decide) gv_113 K
theorem gf_833 {C : rCx} {d : Nat} {r : dM} {pc : Nat} {L : List (Option Value)} {st : List Value} {σ : rS} {Q : Option Value → rS → Prop} (hd : decode r.2.1 pc = .ok (.getfield 833, 3)) (ho : r.2.2.2.2.2.1 = 16) (K : wG C d r (pc + 3) L (.int (σ.1 109) :: st) σ Q) : wG C d r pc L (.ref (co C) :: st) σ Q := s_get hd ho fl_833 (by decide) gv_109 K
theorem gf_836 {C : rCx} {d : Nat} {r : dM} {pc : Nat} {L : List (Option Value)} {st : List Value} {σ : rS} {Q : Option Value → rS → Prop} (hd : decode r.2.1 pc = .ok (.getfield 836, 3)) (ho : r.2.2.2.2.2.1 = 16) (K : wG C d r (pc + 3) L (.long (σ.2.1 112) :: st) σ Q) : wG C d r pc L (.ref (co C) :: st) σ Q := s_get hd ho fl_836 (by decide) gv_112 K
theorem gf_847 {C : rCx} {d : Nat} {r : dM} {pc : Nat} {L : List (Option Value)} {st : List Value} {σ : rS} {Q : Option Value → rS → Prop} (hd : decode r.2.1 pc = .ok (.getfield 847, 3)) (ho : r.2.2.2.2.2.1 = 16) (K : wG C d r (pc + 3) L (.int (σ.1 108) :: st) σ Q) : wG C d r pc L (.ref (co C) :: st) σ Q := s_get hd ho fl_847 (by decide) gv_108 K
theorem gf_850 {C : rCx} {d : Nat} {r : dM} {pc : Nat} {L : List (Option Value)} {st : List Value} {σ : rS} {Q : Option Value → rS → Prop} (hd : decode r.2.1 pc = .ok (.getfield 850, 3)) (ho : r.2.2.2.2.2.1 = 16) (K : wG C d r (pc + 3) L (.long (σ.2.1 110) :: st) σ Q) : wG C d r pc L (.ref (co C) :: st) σ Q := s_get hd ho fl_850 (by decide) gv_110 K
theorem gf_859 {C : rCx} {d : Nat} {r : dM} {pc : Nat} {L : List (Option Value)} {st : List Value} {σ : rS} {Q : Option Value → rS → Prop} (hd : decode r.2.1 pc = .ok (.getfield 859, 3)) (ho : r.2.2.2.2.2.1 = 16) (K : wG C d r (pc + 3) L (.int (σ.1 107) :: st) σ Q) : wG C d r pc L (.ref (co C) :: st) σ Q := s_get hd ho fl_859 (by decide) gv_107 K
theorem gf_896 {C : rCx} {d : Nat} {r : dM} {pc : Nat} {L : List (Option Value)} {st : List Value} {σ : rS} {Q : Option Value → rS → Prop} (hd : decode r.2.1 pc = .ok (.getfield 896, 3)) (ho : r.2.2.2.2.2.1 = 16) (K : wG C d r (pc + 3) L (.int (σ.1 124) :: st) σ Q) : wG C d r pc L (.ref (co C) :: st) σ Q := s_get hd ho fl_896 (by decide) gv_124 K
theorem gf_899 {C : rCx} {d : Nat} {r : dM} {pc : Nat} {L : List (Option Value)} {st : List Value} {σ : rS} {Q : Option Value → rS → Prop} (hd : decode r.2.1 pc = .ok (.getfield 899, 3)) (ho : r.2.2.2.2.2.1 = 16) (K : wG C d r (pc + 3) L (.int (σ.1 125) :: st) σ Q) : wG C d r pc L (.ref (co C) :: st) σ Q := s_get hd ho fl_899 (by decide) gv_125 K
theorem pf_1 {C : rCx} {d : Nat} {r : dM} {pc : Nat} {L : List (Option Value)} {st : List Value} {σ : rS} {Q : Option Value → rS → Prop} {x : Int32} (hC : cOK C) (hd : decode r.2.1 pc = .ok (.putfield 1, 3)) (ho : r.2.2.2.2.2.1 = 16) (K : ∀ σ1, σ1 = siU σ 0 x → wG C d r (pc + 3) L st σ1 Q) : wG C d r pc L (.int x :: .ref (co C) :: st) σ Q := s_putb hC hd ho fl_1 (by decide +kernel) rfl in_nar K
theorem pf_220 {C : rCx} {d : Nat} {r : dM} {pc : Nat} {L : List (Option Value)} {st : List Value} {σ : rS} {Q : Option Value → rS → Prop} {x : Int32} (hC : cOK C) (hd : decode r.2.1 pc = .ok (.putfield 220, 3)) (ho : r.2.2.2.2.2.1 = 16) (K : ∀ σ1, σ1 = siU σ 106 x → wG C d r (pc + 3) L st σ1 Q) : wG C d r pc L (.int x :: .ref (co C) :: st) σ Q := s_putb hC hd ho fl_220 (by decide +kernel) rfl in_nar K
theorem pf_253 {C : rCx} {d : Nat} {r : dM} {pc : Nat} {L : List (Option Value)} {st : List Value} {σ : rS} {Q : Option Value → rS → Prop} {x : Int32} (hC : cOK C) (hd : decode r.2.1 pc = .ok (.putfield 253, 3)) (ho : r.2.2.2.2.2.1 = 16) (K : ∀ σ1, σ1 = siU σ 2 x → wG C d r (pc + 3) L st σ1 Q) : wG C d r pc L (.int x :: .ref (co C) :: st) σ Q := s_putb hC hd ho fl_253 (by decide +kernel) rfl in_nar K
theorem pf_281 {C : rCx} {d : Nat} {r : dM} {pc : Nat} {L : List (Option Value)} {st : List Value} {σ : rS} {Q : Option Value → rS → Prop} {x : Int32} (hC : cOK C) (hd : decode r.2.1 pc = .ok (.putfield 281, 3)) (ho : r.2.2.2.2.2.1 = 16) (K : ∀ σ1, σ1 = siU σ 3 x → wG C d r (pc + 3) L st σ1 Q) : wG C d r pc L (.int x :: .ref (co C) :: st) σ Q := s_putb hC hd ho fl_281 (by decide +kernel) rfl in_nar K
theorem pf_284 {C : rCx} {d : Nat} {r : dM} {pc : Nat} {L : List (Option Value)} {st : List Value} {σ : rS} {Q : Option Value → rS → Prop} {x : Int32} (hC : cOK C) (hd : decode r.2.1 pc = .ok (.putfield 284, 3)) (ho : r.2.2.2.2.2.1 = 16) (K : ∀ σ1, σ1 = siU σ 4 x → wG C d r (pc + 3) L st σ1 Q) : wG C d r pc L (.int x :: .ref (co C) :: st) σ Q := s_putb hC hd ho fl_284 (by decide +kernel) rfl in_nar K
theorem pf_300 {C : rCx} {d : Nat} {r : dM} {pc : Nat} {L : List (Option Value)} {st : List Value} {σ : rS} {Q : Option Value → rS → Prop} {x : Int32} (hC : cOK C) (hd : decode r.2.1 pc = .ok (.putfield 300, 3)) (ho : r.2.2.2.2.2.1 = 16) (K : ∀ σ1, σ1 = siU σ 11 x → wG C d r (pc + 3) L st σ1 Q) : wG C d r pc L (.int x :: .ref (co C) :: st) σ Q := s_putb hC hd ho fl_300 (by decide +kernel) rfl in_nar K
theorem pf_303 {C : rCx} {d : Nat} {r : dM} {pc : Nat} {L : List (Option Value)} {st : List Value} {σ : rS} {Q : Option Value → rS → Prop} {x : Int32} (hC : cOK C) (hd : decode r.2.1 pc = .ok (.putfield 303, 3)) (ho : r.2.2.2.2.2.1 = 16) (K : ∀ σ1, σ1 = siU σ 12 x → wG C d r (pc + 3) L st σ1 Q) : wG C d r pc L (.int x :: .ref (co C) :: st) σ Q := s_putb hC hd ho fl_303 (by decide +kernel) rfl in_nar K
theorem pf_306 {C : rCx} {d : Nat} {r : dM} {pc : Nat} {L : List (Option Value)} {st : List Value} {σ : rS} {Q : Option Value → rS → Prop} {x : Int32} (hC : cOK C) (hd : decode r.2.1 pc = .ok (.putfield 306, 3)) (ho : r.2.2.2.2.2.1 = 16) (K : ∀ σ1, σ1 = siU σ 10 x → wG C d r (pc + 3) L st σ1 Q) : wG C d r pc L (.int x :: .ref (co C) :: st) σ Q := s_putb hC hd ho fl_306 (by decide +kernel) rfl in_nar K
theorem pf_322 {C : rCx} {d : Nat} {r : dM} {pc : Nat} {L : List (Option Value)} {st : List Value} {σ : rS} {Q : Option Value → rS → Prop} {x : Int32} (hC : cOK C) (hd : decode r.2.1 pc = .ok (.putfield 322, 3)) (ho : r.2.2.2.2.2.1 = 16) (K : ∀ σ1, σ1 = siU σ 13 x → wG C d r (pc + 3) L st σ1 Q) : wG C d r pc L (.int x :: .ref (co C) :: st) σ Q := s_putb hC hd ho fl_322 (by decide +kernel) rfl in_nar K
theorem pf_333 {C : rCx} {d : Nat} {r : dM} {pc : Nat} {L : List (Option Value)} {st : List Value} {σ : rS} {Q : Option Value → rS → Prop} {x : Int32} (hC : cOK C) (hd : decode r.2.1 pc = .ok (.putfield 333, 3)) (ho : r.2.2.2.2.2.1 = 16) (K : ∀ σ1, σ1 = siU σ 15 x → wG C d r (pc + 3) L st σ1 Q) : wG C d r pc L (.int x :: .ref (co C) :: st) σ Q := s_putb hC hd ho fl_333 (by decide +kernel) rfl in_nar K
theorem pf_340 {C : rCx} {d : Nat} {r : dM} {pc : Nat} {L : List (Option Value)} {st : List Value} {σ : rS} {Q : Option Value → rS → Prop} {x : Int32} (hC : cOK C) (hd : decode r.2.1 pc = .ok (.putfield 340, 3)) (ho : r.2.2.2.2.2.1 = 16) (K : ∀ σ1, σ1 = siU σ 16 x → wG C d r (pc + 3) L st σ1 Q) : wG C d r pc L (.int x :: .ref (co C) :: st) σ Q := s_putb hC hd ho fl_340 (by decide +kernel) rfl in_nar K
theorem pf_343 {C : rCx} {d : Nat} {r : dM} {pc : Nat} {L : List (Option Value)} {st : List Value} {σ : rS} {Q : Option Value → rS → Prop} {x : Int32} (hC : cOK C) (hd : decode r.2.1 pc = .ok (.putfield 343, 3)) (ho : r.2.2.2.2.2.1 = 16) (K : ∀ σ1, σ1 = siU σ 18 x → wG C d r (pc + 3) L st σ1 Q) : wG C d r pc L (.int x :: .ref (co C) :: st) σ Q := s_putb hC hd ho fl_343 (by decide +kernel) rfl in_nar K
theorem pf_346 {C : rCx} {d : Nat} {r : dM} {pc : Nat} {L : List (Option Value)} {st : List Value} {σ : rS} {Q : Option Value → rS → Prop} {x : Int32} (hC : cOK C) (hd : decode r.2.1 pc = .ok (.putfield 346, 3)) (ho : r.2.2.2.2.2.1 = 16) (K : ∀ σ1, σ1 = siU σ 41 x → wG C d r (pc + 3) L st σ1 Q) : wG C d r pc L (.int x :: .ref (co C) :: st) σ Q := s_putb hC hd ho fl_346 (by decide +kernel) rfl in_nar K
theorem pf_369 {C : rCx} {d : Nat} {r : dM} {pc : Nat} {L : List (Option Value)} {st : List Value} {σ : rS} {Q : Option Value → rS → Prop} {x : Int32} (hC : cOK C) (hd : decode r.2.1 pc = .ok (.putfield 369, 3)) (ho : r.2.2.2.2.2.1 = 16) (K : ∀ σ1, σ1 = siU σ 17 x → wG C d r (pc + 3) L st σ1 Q) : wG C d r pc L (.int x :: .ref (co C) :: st) σ Q := s_putb hC hd ho fl_369 (by decide +kernel) rfl in_nar K
theorem pf_375 {C : rCx} {d : Nat} {r : dM} {pc : Nat} {L : List (Option Value)} {st : List Value} {σ : rS} {Q : Option Value → rS → Prop} {x : Int32} (hC : cOK C) (hd : decode r.2.1 pc = .ok (.putfield 375, 3)) (ho : r.2.2.2.2.2.1 = 16) (K : ∀ σ1, σ1 = siU σ 42 x → wG C d r (pc + 3) L st σ1 Q) : wG C d r pc L (.int x :: .ref (co C) :: st) σ Q := s_putb hC hd ho fl_375 (by decide +kernel) rfl in_nar K
theorem pf_378 {C : rCx} {d : Nat} {r : dM} {pc : Nat} {L : List (Option Value)} {st : List Value} {σ : rS} {Q : Option Value → rS → Prop} {x : Int32} (hC : cOK C) (hd : decode r.2.1 pc = .ok (.putfield 378, 3)) (ho : r.2.2.2.2.2.1 = 16) (K : ∀ σ1, σ1 = siU σ 19 x → wG C d r (pc + 3) L st σ1 Q) : wG C d r pc L (.int x :: .ref (co C) :: st) σ Q := s_putb hC hd ho fl_378 (by decide +kernel) rfl in_nar K
theorem pf_425 {C : rCx} {d : Nat} {r : dM} {pc : Nat} {L : List (Option Value)} {st : List Value} {σ : rS} {Q : Option Value → rS → Prop} {x : Int32} (hC : cOK C) (hd : decode r.2.1 pc = .ok (.putfield 425, 3)) (ho : r.2.2.2.2.2.1 = 16) (K : ∀ σ1, σ1 = siU σ 48 x → wG C d r (pc + 3) L st σ1 Q) : wG C d r pc L (.int x :: .ref (co C) :: st) σ Q := s_putb hC hd ho fl_425 (by decide +kernel) rfl in_nar K
theorem pf_428 {C : rCx} {d : Nat} {r : dM} {pc : Nat} {L : List (Option Value)} {st : List Value} {σ : rS} {Q : Option Value → rS → Prop} {x : Int32} (hC : cOK C) (hd : decode r.2.1 pc = .ok (.putfield 428, 3)) (ho : r.2.2.2.2.2.1 = 16) (K : ∀ σ1, σ1 = siU σ 47 x → wG C d r (pc + 3) L st σ1 Q) : wG C d r pc L (.int x :: .ref (co C) :: st) σ Q := s_putb hC hd ho fl_428 (by decide +kernel) rfl in_nar K
theorem pf_435 {C : rCx} {d : Nat} {r : dM} {pc : Nat} {L : List (Option Value)} {st : List Value} {σ : rS} {Q : Option Value → rS → Prop} {x : Int32} (hC : cOK C) (hd : decode r.2.1 pc = .ok (.putfield 435, 3)) (ho : r.2.2.2.2.2.1 = 16) (K : ∀ σ1, σ1 = siU σ 49 x → wG C d r (pc + 3) L st σ1 Q) : wG C d r pc L (.int x :: .ref (co C) :: st) σ Q := s_putb hC hd ho fl_435 (by decide +kernel) rfl in_nar K
theorem pf_438 {C : rCx} {d : Nat} {r : dM} {pc : Nat} {L : List (Option Value)} {st : List Value} {σ : rS} {Q : Option Value → rS → Prop} {x : Int32} (hC : cOK C) (hd : decode r.2.1 pc = .ok (.putfield 438, 3)) (ho : r.2.2.2.2.2.1 = 16) (K : ∀ σ1, σ1 = siU σ 46 x → wG C d r (pc + 3) L st σ1 Q) : wG C d r pc L (.int x :: .ref (co C) :: st) σ Q := s_putb hC hd ho fl_438 (by decide +kernel) rfl in_nar K
theorem pf_484 {C : rCx} {d : Nat} {r : dM} {pc : Nat} {L : List (Option Value)} {st : List Value} {σ : rS} {Q : Option Value → rS → Prop} {x : Int32} (hC : cOK C) (hd : decode r.2.1 pc = .ok (.putfield 484, 3)) (ho : r.2.2.2.2.2.1 = 16) (K : ∀ σ1, σ1 = siU σ 55 x → wG C d r (pc + 3) L st σ1 Q) : wG C d r pc L (.int x :: .ref (co C) :: st) σ Q := s_putb hC hd ho fl_484 (by decide +kernel) rfl in_nar K
theorem pf_487 {C : rCx} {d : Nat} {r : dM} {pc : Nat} {L : List (Option Value)} {st : List Value} {σ : rS} {Q : Option Value → rS → Prop} {x : Int32} (hC : cOK C) (hd : decode r.2.1 pc = .ok (.putfield 487, 3)) (ho : r.2.2.2.2.2.1 = 16) (K : ∀ σ1, σ1 = siU σ 40 x → wG C d r (pc + 3) L st σ1 Q) : wG C d r pc L (.int x :: .ref (co C) :: st) σ Q := s_putb hC hd ho fl_487 (by decide +kernel) rfl in_nar K
theorem pf_526 {C : rCx} {d : Nat} {r : dM} {pc : Nat} {L : List (Option Value)} {st : List Value} {σ : rS} {Q : Option Value → rS → Prop} {x : Int32} (hC : cOK C) (hd : decode r.2.1 pc = .ok (.putfield 526, 3)) (ho : r.2.2.2.2.2.1 = 16) (K : ∀ σ1, σ1 = siU σ 53 x → wG C d r (pc + 3) L st σ1 Q) : wG C d r pc L (.int x :: .ref (co C) :: st) σ Q := s_putb hC hd ho fl_526 (by decide +kernel) rfl in_nar K
theorem pf_529 {C : rCx} {d : Nat} {r : dM} {pc : Nat} {L : List (Option Value)} {st : List Value} {σ : rS} {Q : Option Value → rS → Prop} {x : Int32} (hC : cOK C) (hd : decode r.2.1 pc = .ok (.putfield 529, 3)) (ho : r.2.2.2.2.2.1 = 16) (hn : narrow .boolean (.int x) = .int x ∧ fits .boolean (.int x) = true) (K : ∀ σ1, σ1 = siU σ 14 x → wG C d r (pc + 3) L st σ1 Q) : wG C d r pc L (.int x :: .ref (co C) :: st) σ Q := s_putb hC hd ho fl_529 (by decide +kernel) rfl hn K
theorem pf_533 {C : rCx} {d : Nat} {r : dM} {pc : Nat} {L : List (Option Value)} {st : List Value} {σ : rS} {Q : Option Value → rS → Prop} {x : Int32} (hC : cOK C) (hd : decode r.2.1 pc = .ok (.putfield 533, 3)) (ho : r.2.2.2.2.2.1 = 16) (hn : narrow .boolean (.int x) = .int x ∧ fits .boolean (.int x) = true) (K : ∀ σ1, σ1 = siU σ 69 x → wG C d r (pc + 3) L st σ1 Q) : wG C d r pc L (.int x :: .ref (co C) :: st) σ Q := s_putb hC hd ho fl_533 (by decide +kernel) rfl hn K
theorem pf_536 {C : rCx} {d : Nat} {r : dM} {pc : Nat} {L : List (Option Value)} {st : List Value} {σ : rS} {Q : Option Value → rS → Prop} {x : Int32} (hC : cOK C) (hd : decode r.2.1 pc = .ok (.putfield 536, 3)) (ho : r.2.2.2.2.2.1 = 16) (hn : narrow .boolean (.int x) = .int x ∧ fits .boolean (.int x) = true) (K : ∀ σ1, σ1 = siU σ 94 x → wG C d r (pc + 3) L st σ1 Q) : wG C d r pc L (.int x :: .ref (co C) :: st) σ Q := s_putb hC hd ho fl_536 (by decide +kernel) rfl hn K
theorem pf_539 {C : rCx} {d : Nat} {r : dM} {pc : Nat} {L : List (Option Value)} {st : List Value} {σ : rS} {Q : Option Value → rS → Prop} {x : Int32} (hC : cOK C) (hd : decode r.2.1 pc = .ok (.putfield 539, 3)) (ho : r.2.2.2.2.2.1 = 16) (hn : narrow .boolean (.int x) = .int x ∧ fits .boolean (.int x) = true) (K : ∀ σ1, σ1 = siU σ 114 x → wG C d r (pc + 3) L st σ1 Q) : wG C d r pc L (.int x :: .ref (co C) :: st) σ Q := s_putb hC hd ho fl_539 (by decide +kernel) rfl hn K
theorem pf_542 {C : rCx} {d : Nat} {r : dM} {pc : Nat} {L : List (Option Value)} {st : List Value} {σ : rS} {Q : Option Value → rS → Prop} {x : Int32} (hC : cOK C) (hd : decode r.2.1 pc = .ok (.putfield 542, 3)) (ho : r.2.2.2.2.2.1 = 16) (K : ∀ σ1, σ1 = siU σ 70 x → wG C d r (pc + 3) L st σ1 Q) : wG C d r pc L (.int x :: .ref (co C) :: st) σ Q := s_putb hC hd ho fl_542 (by decide +kernel) rfl in_nar K
theorem pf_545 {C : rCx} {d : Nat} {r : dM} {pc : Nat} {L : List (Option Value)} {st : List Value} {σ : rS} {Q : Option Value → rS → Prop} {x : Int32} (hC : cOK C) (hd : decode r.2.1 pc = .ok (.putfield 545, 3)) (ho : r.2.2.2.2.2.1 = 16) (K : ∀ σ1, σ1 = siU σ 71 x → wG C d r (pc + 3) L st σ1 Q) : wG C d r pc L (.int x :: .ref (co C) :: st) σ Q := s_putb hC hd ho fl_545 (by decide +kernel) rfl in_nar K
theorem pf_548 {C : rCx} {d : Nat} {r : dM} {pc : Nat} {L : List (Option Value)} {st : List Value} {σ : rS} {Q : Option Value → rS → Prop} {x : Int32} (hC : cOK C) (hd : decode r.2.1 pc = .ok (.putfield 548, 3)) (ho : r.2.2.2.2.2.1 = 16) (K : ∀ σ1, σ1 = siU σ 72 x → wG C d r (pc + 3) L st σ1 Q) : wG C d r pc L (.int x :: .ref (co C) :: st) σ Q := s_putb hC hd ho fl_548 (by decide +kernel) rfl in_nar K
theorem pf_551 {C : rCx} {d : Nat} {r : dM} {pc : Nat} {L : List (Option Value)} {st : List Value} {σ : rS} {Q : Option Value → rS → Prop} {x : Int32} (hC : cOK C) (hd : decode r.2.1 pc = .ok (.putfield 551, 3)) (ho : r.2.2.2.2.2.1 = 16) (K : ∀ σ1, σ1 = siU σ 58 x → wG C d r (pc + 3) L st σ1 Q) : wG C d r pc L (.int x :: .ref (co C) :: st) σ Q := s_putb hC hd ho fl_551 (by decide +kernel) rfl in_nar K
theorem pf_554 {C : rCx} {d : Nat} {r : dM} {pc : Nat} {L : List (Option Value)} {st : List Value} {σ : rS} {Q : Option Value → rS → Prop} {x : Int32} (hC : cOK C) (hd : decode r.2.1 pc = .ok (.putfield 554, 3)) (ho : r.2.2.2.2.2.1 = 16) (K : ∀ σ1, σ1 = siU σ 61 x → wG C d r (pc + 3) L st σ1 Q) : wG C d r pc L (.int x :: .ref (co C) :: st) σ Q := s_putb hC hd ho fl_554 (by decide +kernel) rfl in_nar K
theorem pf_566 {C : rCx} {d : Nat} {r : dM} {pc : Nat} {L : List (Option Value)} {st : List Value} {σ : rS} {Q : Option Value → rS → Prop} {x : Int32} (hC : cOK C) (hd : decode r.2.1 pc = .ok (.putfield 566, 3)) (ho : r.2.2.2.2.2.1 = 16) (K : ∀ σ1, σ1 = siU σ 67 x → wG C d r (pc + 3) L st σ1 Q) : wG C d r pc L (.int x :: .ref (co C) :: st) σ Q := s_putb hC hd ho fl_566 (by decide +kernel) rfl in_nar K
theorem pf_575 {C : rCx} {d : Nat} {r : dM} {pc : Nat} {L : List (Option Value)} {st : List Value} {σ : rS} {Q : Option Value → rS → Prop} {x : Int32} (hC : cOK C) (hd : decode r.2.1 pc = .ok (.putfield 575, 3)) (ho : r.2.2.2.2.2.1 = 16) (K : ∀ σ1, σ1 = siU σ 63 x → wG C d r (pc + 3) L st σ1 Q) : wG C d r pc L (.int x :: .ref (co C) :: st) σ Q := s_putb hC hd ho fl_575 (by decide +kernel) rfl in_nar K
theorem pf_581 {C : rCx} {d : Nat} {r : dM} {pc : Nat} {L : List (Option Value)} {st : List Value} {σ : rS} {Q : Option Value → rS → Prop} {x : Int32} (hC : cOK C) (hd : decode r.2.1 pc = .ok (.putfield 581, 3)) (ho : r.2.2.2.2.2.1 = 16) (K : ∀ σ1, σ1 = siU σ 66 x → wG C d r (pc + 3) L st σ1 Q) : wG C d r pc L (.int x :: .ref (co C) :: st) σ Q := s_putb hC hd ho fl_581 (by decide +kernel) rfl in_nar K
theorem pf_585 {C : rCx} {d : Nat} {r : dM} {pc : Nat} {L : List (Option Value)} {st : List Value} {σ : rS} {Q : Option Value → rS → Prop} {x : Int32} (hC : cOK C) (hd : decode r.2.1 pc = .ok (.putfield 585, 3)) (ho : r.2.2.2.2.2.1 = 16) (K : ∀ σ1, σ1 = siU σ 62 x → wG C d r (pc + 3) L st σ1 Q) : wG C d r pc L (.int x :: .ref (co C) :: st) σ Q := s_putb hC hd ho fl_585 (by decide +kernel) rfl in_nar K
theorem pf_609 {C : rCx} {d : Nat} {r : dM} {pc : Nat} {L : List (Option Value)} {st : List Value} {σ : rS} {Q : Option Value → rS → Prop} {x : Int32} (hC : cOK C) (hd : decode r.2.1 pc = .ok (.putfield 609, 3)) (ho : r.2.2.2.2.2.1 = 16) (K : ∀ σ1, σ1 = siU σ 85 x → wG C d r (pc + 3) L st σ1 Q) : wG C d r pc L (.int x :: .ref (co C) :: st) σ Q := s_putb hC hd ho fl_609 (by decide +kernel) rfl in_nar K
theorem pf_658 {C : rCx} {d : Nat} {r : dM} {pc : Nat} {L : List (Option Value)} {st : List Value} {σ : rS} {Q : Option Value → rS → Prop} {x : Int32} (hC : cOK C) (hd : decode r.2.1 pc = .ok (.putfield 658, 3)) (ho : r.2.2.2.2.2.1 = 16) (K : ∀ σ1, σ1 = siU σ 88 x → wG C d r (pc + 3) L st σ1 Q) : wG C d r pc L (.int x :: .ref (co C) :: st) σ Q := s_putb hC hd ho fl_658 (by decide +kernel) rfl in_nar K
theorem pf_661 {C : rCx} {d : Nat} {r : dM} {pc : Nat} {L : List (Option Value)} {st : List Value} {σ : rS} {Q : Option Value → rS → Prop} {x : Int32} (hC : cOK C) (hd : decode r.2.1 pc = .ok (.putfield 661, 3)) (ho : r.2.2.2.2.2.1 = 16) (K : ∀ σ1, σ1 = siU σ 89 x → wG C d r (pc + 3) L st σ1 Q) : wG C d r pc L (.int x :: .ref (co C) :: st) σ Q := s_putb hC hd ho fl_661 (by decide +kernel) rfl in_nar K
theorem pf_710 {C : rCx} {d : Nat} {r : dM} {pc : Nat} {L : List (Option Value)} {st : List Value} {σ : rS} {Q : Option Value → rS → Prop} {x : Int32} (hC : cOK C) (hd : decode r.2.1 pc = .ok (.putfield 710, 3)) (ho : r.2.2.2.2.2.1 = 16) (K : ∀ σ1, σ1 = siU σ 92 x → wG C d r (pc + 3) L st σ1 Q) : wG C d r pc L (.int x :: .ref (co C) :: st) σ Q := s_putb hC hd ho fl_710 (by decide +kernel) rfl in_nar K
theorem pf_755 {C : rCx} {d : Nat} {r : dM} {pc : Nat} {L : List (Option Value)} {st : List Value} {σ : rS} {Q : Option Value → rS → Prop} {x : Int32} (hC : cOK C) (hd : decode r.2.1 pc = .ok (.putfield 755, 3)) (ho : r.2.2.2.2.2.1 = 16) (K : ∀ σ1, σ1 = siU σ 100 x → wG C d r (pc + 3) L st σ1 Q) : wG C d r pc L (.int x :: .ref (co C) :: st) σ Q := s_putb hC hd ho fl_755 (by decide +kernel) rfl in_nar K
theorem pf_821 {C : rCx} {d : Nat} {r : dM} {pc : Nat} {L : List (Option Value)} {st : List Value} {σ : rS} {Q : Option Value → rS → Prop} {x : Int32} (hC : cOK C) (hd : decode r.2.1 pc = .ok (.putfield 821, 3)) (ho : r.2.2.2.2.2.1 = 16) (hn : narrow .boolean (.int x) = .int x ∧ fits .boolean (.int x) = true) (K : ∀ σ1, σ1 = siU σ 103 x → wG C d r (pc + 3) L st σ1 Q) : wG C d r pc L (.int x :: .ref (co C) :: st) σ Q := s_putb hC hd ho fl_821 (by decide +kernel) rfl hn K
theorem pf_827 {C : rCx} {d : Nat} {r : dM} {pc : Nat} {L : List (Option Value)} {st : List Value} {σ : rS} {Q : Option Value → rS → Prop} {x : Int32} (hC : cOK C) (hd : decode r.2.1 pc = .ok (.putfield 827, 3)) (ho : r.2.2.2.2.2.1 = 16) (K : ∀ σ1, σ1 = siU σ 104 x → wG C d r (pc + 3) L st σ1 Q) : wG C d r pc L (.int x :: .ref (co C) :: st) σ Q := s_putb hC hd ho fl_827 (by decide +kernel) rfl in_nar K
theorem pf_830 {C : rCx} {d : Nat} {r : dM} {pc : Nat} {L : List (Option Value)} {st : List Value} {σ : rS} {Q : Option Value → rS → Prop} {x : Int32} (hC : cOK C) (hd : decode r.2.1 pc = .ok (.putfield 830, 3)) (ho : r.2.2.2.2.2.1 = 16) (hn : narrow .boolean (.int x) = .int x ∧ fits .boolean (.int x) = true) (K : ∀ σ1, σ1 = siU σ 113 x → wG C d r (pc + 3) L st σ1 Q) : wG C d r pc L (.int x :: .ref (co C) :: st) σ Q := s_putb hC hd ho fl_830 (by decide +kernel) rfl hn K
theorem pf_833 {C : rCx} {d : Nat} {r : dM} {pc : Nat} {L : List (Option Value)} {st : List Value} {σ : rS} {Q : Option Value → rS → Prop} {x : Int32} (hC : cOK C) (hd : decode r.2.1 pc = .ok (.putfield 833, 3)) (ho : r.2.2.2.2.2.1 = 16) (K : ∀ σ1, σ1 = siU σ 109 x → wG C d r (pc + 3) L st σ1 Q) : wG C d r pc L (.int x :: .ref (co C) :: st) σ Q := s_putb hC hd ho fl_833 (by decide +kernel) rfl in_nar K
theorem pf_836 {C : rCx} {d : Nat} {r : dM} {pc : Nat} {L : List (Option Value)} {st : List Value} {σ : rS} {Q : Option Value → rS → Prop} {x : Int64} (hC : cOK C) (hd : decode r.2.1 pc = .ok (.putfield 836, 3)) (ho : r.2.2.2.2.2.1 = 16) (K : ∀ σ1, σ1 = slU σ 112 x → wG C d r (pc + 3) L st σ1 Q) : wG C d r pc L (.long x :: .ref (co C) :: st) σ Q := s_putlb hC hd ho fl_836 (by decide +kernel) rfl K
theorem pf_847 {C : rCx} {d : Nat} {r : dM} {pc : Nat} {L : List (Option Value)} {st : List Value} {σ : rS} {Q : Option Value → rS → Prop} {x : Int32} (hC : cOK C) (hd : decode r.2.1 pc = .ok (.putfield 847, 3)) (ho : r.2.2.2.2.2.1 = 16) (K : ∀ σ1, σ1 = siU σ 108 x → wG C d r (pc + 3) L st σ1 Q) : wG C d r pc L (.int x :: .ref (co C) :: st) σ Q := s_putb hC hd ho fl_847 (by decide +kernel) rfl in_nar K
theorem pf_850 {C : rCx} {d : Nat} {r : dM} {pc : Nat} {L : List (Option Value)} {st : List Value} {σ : rS} {Q : Option Value → rS → Prop} {x : Int64} (hC : cOK C) (hd : decode r.2.1 pc = .ok (.putfield 850, 3)) (ho : r.2.2.2.2.2.1 = 16) (K : ∀ σ1, σ1 = slU σ 110 x → wG C d r (pc + 3) L st σ1 Q) : wG C d r pc L (.long x :: .ref (co C) :: st) σ Q := s_putlb hC hd ho fl_850 (by decide +kernel) rfl K
theorem pf_859 {C : rCx} {d : Nat} {r : dM} {pc : Nat} {L : List (Option Value)} {st : List Value} {σ : rS} {Q : Option Value → rS → Prop} {x : Int32} (hC : cOK C) (hd : decode r.2.1 pc = .ok (.putfield 859, 3)) (ho : r.2.2.2.2.2.1 = 16) (K : ∀ σ1, σ1 = siU σ 107 x → wG C d r (pc + 3) L st σ1 Q) : wG C d r pc L (.int x :: .ref (co C) :: st) σ Q := s_putb hC hd ho fl_859 (by decide +kernel) rfl in_nar K
theorem pf_896 {C : rCx} {d : Nat} {r : dM} {pc : Nat} {L : List (Option Value)} {st : List Value} {σ : rS} {Q : Option Value → rS → Prop} {x : Int32} (hC : cOK C) (hd : decode r.2.1 pc = .ok (.putfield 896, 3)) (ho : r.2.2.2.2.2.1 = 16) (K : ∀ σ1, σ1 = siU σ 124 x → wG C d r (pc + 3) L st σ1 Q) : wG C d r pc L (.int x :: .ref (co C) :: st) σ Q := s_putb hC hd ho fl_896 (by decide +kernel) rfl in_nar K
theorem pf_899 {C : rCx} {d : Nat} {r : dM} {pc : Nat} {L : List (Option Value)} {st : List Value} {σ : rS} {Q : Option Value → rS → Prop} {x : Int32} (hC : cOK C) (hd : decode r.2.1 pc = .ok (.putfield 899, 3)) (ho : r.2.2.2.2.2.1 = 16) (K : ∀ σ1, σ1 = siU σ 125 x → wG C d r (pc + 3) L st σ1 Q) : wG C d r pc L (.int x :: .ref (co C) :: st) σ Q := s_putb hC hd ho fl_899 (by decide +kernel) rfl in_nar K
abbrev m_within : dM := (yX13_within, cX13_within, 3, (some .boolean), true, 16, 3)
abbrev m_feed : dM := (yX13_feed, cX13_feed, 8, (some .int), false, 16, 5)
abbrev m_end : dM := (yX13_end, cX13_end, 2, none, false, 16, 1)
abbrev m_byteAt : dM := (yX13_byteAt, cX13_byteAt, 2, (some .int), false, 16, 1)
abbrev m_isLetter : dM := (yX13_isLetter, cX13_isLetter, 1, (some .boolean), true, 16, 1)
abbrev m_isDigit : dM := (yX13_isDigit, cX13_isDigit, 1, (some .boolean), true, 16, 1)
abbrev m_isBlank : dM := (yX13_isBlank, cX13_isBlank, 1, (some .boolean), true, 16, 1)
abbrev m_skip : dM := (yX13_skip, cX13_skip, 3, (some .int), false, 16, 1)
abbrev m_word : dM := (yX13_word, cX13_word, 7, (some .long), true, 16, 7)
abbrev m_shortWord : dM := (yX13_shortWord, cX13_shortWord, 2, (some .int), true, 16, 1)
abbrev m_wordOf : dM := (yX13_wordOf, cX13_wordOf, 3, (some .int), true, 16, 1)
abbrev m_isSign : dM := (yX13_isSign, cX13_isSign, 1, (some .boolean), true, 16, 1)
abbrev m_takeName : dM := (yX13_takeName, cX13_takeName, 5, (some .int), false, 16, 2)
abbrev m_take : dM := (yX13_take, cX13_take, 5, (some .int), false, 16, 1)
abbrev m_cutTape : dM := (yX13_cutTape, cX13_cutTape, 3, none, false, 16, 0)
abbrev m_isRight : dM := (yX13_isRight, cX13_isRight, 1, (some .boolean), false, 16, 0)
abbrev m_flaw : dM := (yX13_flaw, cX13_flaw, 3, none, false, 16, 2)
abbrev m_readNext : dM := (yX13_readNext, cX13_readNext, 1, none, false, 16, 0)
abbrev m_go : dM := (yX13_go, cX13_go, 1, none, false, 16, 0)
abbrev m_isAt : dM := (yX13_isAt, cX13_isAt, 2, (some .boolean), false, 16, 1)
abbrev m_isNext : dM := (yX13_isNext, cX13_isNext, 2, (some .boolean), false, 16, 1)
abbrev m_isWord : dM := (yX13_isWord, cX13_isWord, 2, (some .boolean), false, 16, 1)
abbrev m_sign : dM := (yX13_sign, cX13_sign, 2, none, false, 16, 1)
abbrev m_open : dM := (yX13_open, cX13_open, 2, none, false, 16, 1)
abbrev m_close : dM := (yX13_close, cX13_close, 2, none, false, 16, 1)
abbrev m_due : dM := (yX13_due, cX13_due, 2, (some .int), false, 16, 1)
abbrev m_isSame : dM := (yX13_isSame, cX13_isSame, 3, (some .boolean), false, 16, 2)
abbrev m_isTold : dM := (yX13_isTold, cX13_isTold, 4, (some .boolean), false, 16, 1)
abbrev m_variableOf : dM := (yX13_variableOf, cX13_variableOf, 3, (some .int), false, 16, 1)
abbrev m_arrayOf : dM := (yX13_arrayOf, cX13_arrayOf, 3, (some .int), false, 16, 1)
abbrev m_functionOf : dM := (yX13_functionOf, cX13_functionOf, 3, (some .int), false, 16, 1)
abbrev m_fresh : dM := (yX13_fresh, cX13_fresh, 7, (some .int), false, 16, 3)
abbrev m_tellVar : dM := (yX13_tellVar, cX13_tellVar, 5, none, false, 16, 0)
abbrev m_tellArr : dM := (yX13_tellArr, cX13_tellArr, 3, none, false, 16, 0)
abbrev m_openBlock : dM := (yX13_openBlock, cX13_openBlock, 3, none, false, 16, 2)
abbrev m_newStatement : dM := (yX13_newStatement, cX13_newStatement, 5, (some .int), false, 16, 1)
abbrev m_goesOn : dM := (yX13_goesOn, cX13_goesOn, 1, (some .boolean), false, 16, 0)
abbrev m_hold : dM := (yX13_hold, cX13_hold, 3, none, false, 16, 2)
abbrev m_top : dM := (yX13_top, cX13_top, 1, (some .int), false, 16, 0)
abbrev m_truth : dM := (yX13_truth, cX13_truth, 1, (some .int), true, 16, 1)
abbrev m_turn : dM := (yX13_turn, cX13_turn, 2, none, false, 16, 0)
abbrev m_push : dM := (yX13_push, cX13_push, 2, none, false, 16, 1)
abbrev m_look : dM := (yX13_look, cX13_look, 3, none, false, 16, 2)
abbrev m_valueOf : dM := (yX13_valueOf, cX13_valueOf, 2, (some .int), false, 16, 1)
abbrev m_named : dM := (yX13_named, cX13_named, 3, (some .boolean), false, 16, 0)
abbrev m_operand : dM := (yX13_operand, cX13_operand, 2, (some .boolean), false, 16, 0)
abbrev m_rank : dM := (yX13_rank, cX13_rank, 1, (some .int), true, 16, 1)
abbrev m_compared : dM := (yX13_compared, cX13_compared, 3, (some .int), true, 16, 3)
abbrev m_apply : dM := (yX13_apply, cX13_apply, 5, none, false, 16, 0)
abbrev m_settle : dM := (yX13_settle, cX13_settle, 2, none, false, 16, 1)
abbrev m_cellOf : dM := (yX13_cellOf, cX13_cellOf, 4, (some .int), false, 16, 2)
abbrev m_behind : dM := (yX13_behind, cX13_behind, 4, (some .int), false, 16, 0)
abbrev m_expression : dM := (yX13_expression, cX13_expression, 2, (some .int), false, 16, 0)
abbrev m_arguments : dM := (yX13_arguments, cX13_arguments, 2, none, false, 16, 0)
abbrev m_tellDraw : dM := (yX13_tellDraw, cX13_tellDraw, 3, none, false, 16, 0)
abbrev m_tellNamed : dM := (yX13_tellNamed, cX13_tellNamed, 4, none, false, 16, 0)
abbrev m_tellLocal : dM := (yX13_tellLocal, cX13_tellLocal, 3, none, false, 16, 0)
abbrev m_tellStatement : dM := (yX13_tellStatement, cX13_tellStatement, 2, none, false, 16, 0)
abbrev m_endBlock : dM := (yX13_endBlock, cX13_endBlock, 3, none, false, 16, 0)
abbrev m_tellStatements : dM := (yX13_tellStatements, cX13_tellStatements, 1, none, false, 16, 0)
abbrev m_tellFunc : dM := (yX13_tellFunc, cX13_tellFunc, 4, none, false, 16, 0)
abbrev m_swing : dM := (yX13_swing, cX13_swing, 5, none, false, 16, 3)
abbrev m_swingAll : dM := (yX13_swingAll, cX13_swingAll, 2, none, false, 16, 1)
abbrev m_calledBy : dM := (yX13_calledBy, cX13_calledBy, 2, (some .int), false, 16, 1)
abbrev m_countArguments : dM := (yX13_countArguments, cX13_countArguments, 7, (some .int), false, 16, 1)
abbrev m_lookAtCalls : dM := (yX13_lookAtCalls, cX13_lookAtCalls, 4, none, false, 16, 0)
abbrev m_tellProgram : dM := (yX13_tellProgram, cX13_tellProgram, 1, none, false, 16, 0)
abbrev m_program : dM := (yX13_program, cX13_program, 1, (some .int), false, 16, 0)
abbrev m_fault : dM := (yX13_fault, cX13_fault, 1, (some .int), false, 16, 0)
abbrev m_store : dM := (yX13_store, cX13_store, 3, none, false, 16, 2)
abbrev m_leave : dM := (yX13_leave, cX13_leave, 4, (some .int), false, 16, 1)
abbrev m_moveTo : dM := (yX13_moveTo, cX13_moveTo, 2, (some .int), false, 16, 1)
abbrev m_begin : dM := (yX13_begin, cX13_begin, 2, (some .int), false, 16, 0)
abbrev m_fail : dM := (yX13_fail, cX13_fail, 2, (some .int), false, 16, 1)
abbrev m_workAt : dM := (yX13_workAt, cX13_workAt, 2, (some .int), false, 16, 1)
abbrev m_findPlace : dM := (yX13_findPlace, cX13_findPlace, 4, none, false, 16, 1)
abbrev m_call : dM := (yX13_call, cX13_call, 5, (some .int), false, 16, 1)
abbrev m_outcome : dM := (yX13_outcome, cX13_outcome, 3, none, false, 16, 2)
abbrev m_draw : dM := (yX13_draw, cX13_draw, 7, (some .int), false, 16, 1)
abbrev m_choose : dM := (yX13_choose, cX13_choose, 4, (some .int), false, 16, 1)
abbrev m_act : dM := (yX13_act, cX13_act, 4, (some .int), false, 16, 0)
abbrev m_get : dM := (yX13_get, cX13_get, 2, (some .int), false, 16, 1)
abbrev m_pack : dM := (yX13_pack, cX13_pack, 3, (some .int), false, 16, 0)
abbrev m_unpack : dM := (yX13_unpack, cX13_unpack, 5, none, false, 16, 1)
abbrev m_isKey : dM := (yX13_isKey, cX13_isKey, 4, (some .boolean), false, 16, 1)
abbrev m_stateNow : dM := (yX13_stateNow, cX13_stateNow, 3, (some .int), false, 16, 0)
abbrev m_stateNumber : dM := (yX13_stateNumber, cX13_stateNumber, 3, (some .int), false, 16, 0)
abbrev m_endingNumber : dM := (yX13_endingNumber, cX13_endingNumber, 4, (some .int), false, 16, 0)
abbrev m_addNext : dM := (yX13_addNext, cX13_addNext, 7, (some .boolean), false, 16, 4)
abbrev m_expand : dM := (yX13_expand, cX13_expand, 6, (some .boolean), false, 16, 1)
abbrev m_isTaken : dM := (yX13_isTaken, cX13_isTaken, 4, (some .boolean), false, 16, 3)
abbrev m_leads : dM := (yX13_leads, cX13_leads, 3, (some .boolean), false, 16, 2)
abbrev m_findReach : dM := (yX13_findReach, cX13_findReach, 7, none, false, 16, 3)
abbrev m_endsAtOnce : dM := (yX13_endsAtOnce, cX13_endsAtOnce, 5, (some .boolean), false, 16, 2)
abbrev m_canEnd : dM := (yX13_canEnd, cX13_canEnd, 5, (some .boolean), false, 16, 2)
abbrev m_isRingWith : dM := (yX13_isRingWith, cX13_isRingWith, 3, (some .boolean), false, 16, 2)
abbrev m_ringOf : dM := (yX13_ringOf, cX13_ringOf, 4, (some .int), false, 16, 1)
abbrev m_findRings : dM := (yX13_findRings, cX13_findRings, 3, none, false, 16, 0)
abbrev m_explore : dM := (yX13_explore, cX13_explore, 4, (some .int), false, 16, 1)
abbrev m_count : dM := (yX13_count, cX13_count, 5, (some .int), false, 16, 1)
abbrev m_isState : dM := (yX13_isState, cX13_isState, 2, (some .boolean), false, 16, 1)
abbrev m_latestAt : dM := (yX13_latestAt, cX13_latestAt, 2, (some .int), false, 16, 1)
abbrev m_state : dM := (yX13_state, cX13_state, 3, (some .int), false, 16, 2)
abbrev m_value : dM := (yX13_value, cX13_value, 5, (some .int), false, 16, 3)
abbrev m_next : dM := (yX13_next, cX13_next, 5, (some .int), false, 16, 3)
abbrev m_ending : dM := (yX13_ending, cX13_ending, 3, (some .int), false, 16, 2)
abbrev m_decide : dM := (yX13_decide, cX13_decide, 4, (some .int), false, 16, 2)
abbrev m_decided : dM := (yX13_decided, cX13_decided, 2, (some .int), false, 16, 1)
abbrev m_set : dM := (yX13_set, cX13_set, 7, none, false, 16, 2)
abbrev m_trim : dM := (yX13_trim, cX13_trim, 2, none, false, 16, 1)
abbrev m_copy : dM := (yX13_copy, cX13_copy, 4, none, false, 16, 2)
abbrev m_compare : dM := (yX13_compare, cX13_compare, 5, (some .int), false, 16, 2)
abbrev m_plus : dM := (yX13_plus, cX13_plus, 7, none, false, 16, 2)
abbrev m_minus : dM := (yX13_minus, cX13_minus, 6, none, false, 16, 2)
abbrev m_times : dM := (yX13_times, cX13_times, 14, none, false, 16, 3)
abbrev m_shiftUp : dM := (yX13_shiftUp, cX13_shiftUp, 6, none, false, 16, 2)
abbrev m_shiftDown : dM := (yX13_shiftDown, cX13_shiftDown, 5, none, false, 16, 2)
abbrev m_oneDigit : dM := (yX13_oneDigit, cX13_oneDigit, 21, (some .int), false, 16, 3)
abbrev m_divide : dM := (yX13_divide, cX13_divide, 8, none, false, 16, 3)
abbrev m_isZero : dM := (yX13_isZero, cX13_isZero, 2, (some .boolean), false, 16, 1)
abbrev m_reduce : dM := (yX13_reduce, cX13_reduce, 4, none, false, 16, 2)
abbrev m_clearSum : dM := (yX13_clearSum, cX13_clearSum, 1, none, false, 16, 0)
abbrev m_add : dM := (yX13_add, cX13_add, 2, none, false, 16, 1)
abbrev m_scale : dM := (yX13_scale, cX13_scale, 5, none, false, 16, 2)
abbrev m_keepIn : dM := (yX13_keepIn, cX13_keepIn, 6, none, false, 16, 3)
abbrev m_load : dM := (yX13_load, cX13_load, 6, none, false, 16, 3)
abbrev m_addProduct : dM := (yX13_addProduct, cX13_addProduct, 5, none, false, 16, 4)
abbrev m_isLong : dM := (yX13_isLong, cX13_isLong, 2, (some .boolean), false, 16, 1)
abbrev m_keepVisits : dM := (yX13_keepVisits, cX13_keepVisits, 4, none, false, 16, 1)
abbrev m_loadVisits : dM := (yX13_loadVisits, cX13_loadVisits, 4, none, false, 16, 1)
abbrev m_weightOf : dM := (yX13_weightOf, cX13_weightOf, 3, (some .long), false, 16, 2)
abbrev m_totalOf : dM := (yX13_totalOf, cX13_totalOf, 2, (some .long), false, 16, 1)
abbrev m_takeTimes : dM := (yX13_takeTimes, cX13_takeTimes, 2, none, false, 16, 1)
abbrev m_sumInflow : dM := (yX13_sumInflow, cX13_sumInflow, 5, none, false, 16, 2)
abbrev m_keepSmall : dM := (yX13_keepSmall, cX13_keepSmall, 6, none, false, 16, 3)
abbrev m_layRing : dM := (yX13_layRing, cX13_layRing, 9, none, false, 16, 0)
abbrev m_foldRing : dM := (yX13_foldRing, cX13_foldRing, 4, none, false, 16, 0)
abbrev m_visitFrom : dM := (yX13_visitFrom, cX13_visitFrom, 4, none, false, 16, 1)
abbrev m_solveRing : dM := (yX13_solveRing, cX13_solveRing, 4, (some .boolean), false, 16, 0)
abbrev m_findOrder : dM := (yX13_findOrder, cX13_findOrder, 3, none, false, 16, 0)
abbrev m_solve : dM := (yX13_solve, cX13_solve, 4, (some .int), false, 16, 0)
abbrev m_isSlot : dM := (yX13_isSlot, cX13_isSlot, 2, (some .boolean), true, 16, 2)
abbrev m_isMeant : dM := (yX13_isMeant, cX13_isMeant, 6, (some .boolean), false, 16, 3)
abbrev m_isVisited : dM := (yX13_isVisited, cX13_isVisited, 2, (some .boolean), false, 16, 1)
abbrev m_addWeight : dM := (yX13_addWeight, cX13_addWeight, 5, none, false, 16, 3)
abbrev m_sumWeights : dM := (yX13_sumWeights, cX13_sumWeights, 6, none, false, 16, 3)
abbrev m_sumVisits : dM := (yX13_sumVisits, cX13_sumVisits, 5, none, false, 16, 1)
abbrev m_sumOver : dM := (yX13_sumOver, cX13_sumOver, 6, none, false, 16, 4)
abbrev m_loadWorth : dM := (yX13_loadWorth, cX13_loadWorth, 5, none, false, 16, 2)
abbrev m_show : dM := (yX13_show, cX13_show, 3, (some .int), false, 16, 2)
abbrev m_numbersOf : dM := (yX13_numbersOf, cX13_numbersOf, 2, (some .int), false, 16, 1)
abbrev m_size : dM := (yX13_size, cX13_size, 2, (some .int), false, 16, 1)
abbrev m_limb : dM := (yX13_limb, cX13_limb, 5, (some .int), false, 16, 2)
abbrev m_tell : dM := (yX13_tell, cX13_tell, 2, (some .int), false, 16, 1)
abbrev m_forget : dM := (yX13_forget, cX13_forget, 2, (some .int), false, 16, 0)
abbrev m_drawn : dM := (yX13_drawn, cX13_drawn, 6, (some .int), false, 16, 0)
abbrev m_draws : dM := (yX13_draws, cX13_draws, 2, (some .int), false, 16, 0)
abbrev m_chooses : dM := (yX13_chooses, cX13_chooses, 2, (some .int), false, 16, 0)
abbrev m_go2 : dM := (yX13_go_, cX13_go_, 5, (some .int), false, 16, 1)
abbrev m_play : dM := (yX13_play, cX13_play, 4, (some .int), false, 16, 2)
abbrev m_walk : dM := (yX13_walk, cX13_walk, 2, (some .int), false, 16, 1)
abbrev m_played : dM := (yX13_played, cX13_played, 2, (some .long), false, 16, 1)
abbrev m_keepWorth : dM := (yX13_keepWorth, cX13_keepWorth, 4, none, false, 16, 1)
abbrev m_loadNext : dM := (yX13_loadNext, cX13_loadNext, 2, (some .int), false, 16, 1)
abbrev m_isWorthDone : dM := (yX13_isWorthDone, cX13_isWorthDone, 4, (some .boolean), false, 16, 1)
abbrev m_isGreater : dM := (yX13_isGreater, cX13_isGreater, 5, (some .boolean), false, 16, 1)
abbrev m_takeNext : dM := (yX13_takeNext, cX13_takeNext, 3, none, false, 16, 1)
abbrev m_findWorth : dM := (yX13_findWorth, cX13_findWorth, 4, none, false, 16, 1)
abbrev m_best : dM := (yX13_best, cX13_best, 4, (some .int), false, 16, 0)
abbrev m_findHeavy : dM := (yX13_findHeavy, cX13_findHeavy, 3, none, false, 16, 0)
abbrev m_told : dM := (yX13_told, cX13_told, 3, (some .int), false, 16, 2)
abbrev m_list : dM := (yX13_list, cX13_list, 9, (some .int), false, 16, 4)
abbrev m_weigh : dM := (yX13_weigh, cX13_weigh, 11, none, false, 16, 7)
abbrev m_product : dM := (yX13_product, cX13_product, 4, none, false, 16, 3)
abbrev m_isPairFree : dM := (yX13_isPairFree, cX13_isPairFree, 7, (some .boolean), false, 16, 6)
abbrev m_isFree : dM := (yX13_isFree, cX13_isFree, 9, (some .boolean), false, 16, 4)
abbrev m_isGlobal : dM := (yX13_isGlobal, cX13_isGlobal, 2, (some .boolean), false, 16, 1)
abbrev m_independent : dM := (yX13_independent, cX13_independent, 3, (some .boolean), false, 16, 2)
abbrev m_given : dM := (yX13_given, cX13_given, 7, (some .boolean), false, 16, 3)
theorem k_256 {C : rCx} {d : Nat} {r : dM} {pc : Nat} {L : List (Option Value)} {st : List Value} {σ : rS} {Q : Option Value → rS → Prop} {x0 : Int32} {F : Int32 → rS → Prop} (hd : decode r.2.1 pc = .ok (.invokevirtual 256, 3)) (ho : r.2.2.2.2.2.1 = 16) (h0 : 0 ≤ d) (hc : (st.map fun v => v.category).sum ≤ 8) (h : cI C 0 m_byteAt [.ref (co C), .int x0] σ F) (K : ∀ x σ', F x σ' → wG C (d + 1) r (pc + 3) L (.int x :: st) σ' Q) : wG C (d + 1) r pc L (.int x0 :: .ref (co C) :: st) σ Q := by
  obtain ⟨x, σ', hM, hF⟩ := h
  exact s_call (As := [.int x0]) hd ho (j := 237) (by decide +kernel) rfl ⟨rfl, by decide, rfl⟩ rfl (Nat.le_of_ble_eq_true rfl) h0 hc hM (K x σ' hF)
theorem k_260 {C : rCx} {d : Nat} {r : dM} {pc : Nat} {L : List (Option Value)} {st : List Value} {σ : rS} {Q : Option Value → rS → Prop} {x0 : Int32} {F : Int32 → rS → Prop} (hd : decode r.2.1 pc = .ok (.invokestatic 260, 3)) (ho : r.2.2.2.2.2.1 = 16) (h0 : 0 ≤ d) (hc : (st.map fun v => v.category).sum ≤ 8) (h : cI C 0 m_isBlank [.int x0] σ F) (K : ∀ x σ', F x σ' → wG C (d + 1) r (pc + 3) L (.int x :: st) σ' Q) : wG C (d + 1) r pc L (.int x0 :: st) σ Q := by
  obtain ⟨x, σ', hM, hF⟩ := h
  exact s_cals (As := [.int x0]) hd ho (j := 240) (by decide +kernel) (by decide +kernel) rfl rfl rfl (Nat.le_of_ble_eq_true rfl) h0 hc hM (K x σ' hF)
theorem k_264 {C : rCx} {d : Nat} {r : dM} {pc : Nat} {L : List (Option Value)} {st : List Value} {σ : rS} {Q : Option Value → rS → Prop} {x0 : Int32} {x1 : Int32} {x2 : Int32} {x3 : Int32} {x4 : Int32} {x5 : Int32} {x6 : Int32} {F : Int64 → rS → Prop} (hd : decode r.2.1 pc = .ok (.invokestatic 264, 3)) (ho : r.2.2.2.2.2.1 = 16) (h0 : 0 ≤ d) (hc : (st.map fun v => v.category).sum ≤ 8) (h : cJ C 0 m_word [.int x0, .int x1, .int x2, .int x3, .int x4, .int x5, .int x6] σ F) (K : ∀ x σ', F x σ' → wG C (d + 1) r (pc + 3) L (.long x :: st) σ' Q) : wG C (d + 1) r pc L (.int x6 :: .int x5 :: .int x4 :: .int x3 :: .int x2 :: .int x1 :: .int x0 :: st) σ Q := by
  obtain ⟨x, σ', hM, hF⟩ := h
  exact s_cals (As := [.int x0, .int x1, .int x2, .int x3, .int x4, .int x5, .int x6]) hd ho (j := 242) (by decide +kernel) (by decide +kernel) rfl rfl rfl (Nat.le_of_ble_eq_true rfl) h0 hc hM (K x σ' hF)
theorem k_268 {C : rCx} {d : Nat} {r : dM} {pc : Nat} {L : List (Option Value)} {st : List Value} {σ : rS} {Q : Option Value → rS → Prop} {x0 : Int64} {F : Int32 → rS → Prop} (hd : decode r.2.1 pc = .ok (.invokestatic 268, 3)) (ho : r.2.2.2.2.2.1 = 16) (h0 : 1 ≤ d) (hc : (st.map fun v => v.category).sum ≤ 8) (h : cI C 1 m_shortWord [.long x0] σ F) (K : ∀ x σ', F x σ' → wG C (d + 1) r (pc + 3) L (.int x :: st) σ' Q) : wG C (d + 1) r pc L (.long x0 :: st) σ Q := by
  obtain ⟨x, σ', hM, hF⟩ := h
  exact s_cals (As := [.long x0]) hd ho (j := 243) (by decide +kernel) (by decide +kernel) rfl rfl rfl (Nat.le_of_ble_eq_true rfl) h0 hc hM (K x σ' hF)
theorem k_272 {C : rCx} {d : Nat} {r : dM} {pc : Nat} {L : List (Option Value)} {st : List Value} {σ : rS} {Q : Option Value → rS → Prop} {x0 : Int32} {F : Int32 → rS → Prop} (hd : decode r.2.1 pc = .ok (.invokestatic 272, 3)) (ho : r.2.2.2.2.2.1 = 16) (h0 : 0 ≤ d) (hc : (st.map fun v => v.category).sum ≤ 8) (h : cI C 0 m_isLetter [.int x0] σ F) (K : ∀ x σ', F x σ' → wG C (d + 1) r (pc + 3) L (.int x :: st) σ' Q) : wG C (d + 1) r pc L (.int x0 :: st) σ Q := by
  obtain ⟨x, σ', hM, hF⟩ := h
  exact s_cals (As := [.int x0]) hd ho (j := 238) (by decide +kernel) (by decide +kernel) rfl rfl rfl (Nat.le_of_ble_eq_true rfl) h0 hc hM (K x σ' hF)
theorem k_275 {C : rCx} {d : Nat} {r : dM} {pc : Nat} {L : List (Option Value)} {st : List Value} {σ : rS} {Q : Option Value → rS → Prop} {x0 : Int32} {F : Int32 → rS → Prop} (hd : decode r.2.1 pc = .ok (.invokestatic 275, 3)) (ho : r.2.2.2.2.2.1 = 16) (h0 : 0 ≤ d) (hc : (st.map fun v => v.category).sum ≤ 8) (h : cI C 0 m_isDigit [.int x0] σ F) (K : ∀ x σ', F x σ' → wG C (d + 1) r (pc + 3) L (.int x :: st) σ' Q) : wG C (d + 1) r pc L (.int x0 :: st) σ Q := by
  obtain ⟨x, σ', hM, hF⟩ := h
  exact s_cals (As := [.int x0]) hd ho (j := 239) (by decide +kernel) (by decide +kernel) rfl rfl rfl (Nat.le_of_ble_eq_true rfl) h0 hc hM (K x σ' hF)
theorem k_278 {C : rCx} {d : Nat} {r : dM} {pc : Nat} {L : List (Option Value)} {st : List Value} {σ : rS} {Q : Option Value → rS → Prop} {x0 : Int64} {F : Int32 → rS → Prop} (hd : decode r.2.1 pc = .ok (.invokestatic 278, 3)) (ho : r.2.2.2.2.2.1 = 16) (h0 : 2 ≤ d) (hc : (st.map fun v => v.category).sum ≤ 8) (h : cI C 2 m_wordOf [.long x0] σ F) (K : ∀ x σ', F x σ' → wG C (d + 1) r (pc + 3) L (.int x :: st) σ' Q) : wG C (d + 1) r pc L (.long x0 :: st) σ Q := by
  obtain ⟨x, σ', hM, hF⟩ := h
  exact s_cals (As := [.long x0]) hd ho (j := 244) (by decide +kernel) (by decide +kernel) rfl rfl rfl (Nat.le_of_ble_eq_true rfl) h0 hc hM (K x σ' hF)
theorem k_287 {C : rCx} {d : Nat} {r : dM} {pc : Nat} {L : List (Option Value)} {st : List Value} {σ : rS} {Q : Option Value → rS → Prop} {x0 : Int32} {x1 : Int32} {F : Int32 → rS → Prop} (hd : decode r.2.1 pc = .ok (.invokevirtual 287, 3)) (ho : r.2.2.2.2.2.1 = 16) (h0 : 3 ≤ d) (hc : (st.map fun v => v.category).sum ≤ 8) (h : cI C 3 m_takeName [.ref (co C), .int x0, .int x1] σ F) (K : ∀ x σ', F x σ' → wG C (d + 1) r (pc + 3) L (.int x :: st) σ' Q) : wG C (d + 1) r pc L (.int x1 :: .int x0 :: .ref (co C) :: st) σ Q := by
  obtain ⟨x, σ', hM, hF⟩ := h
  exact s_call (As := [.int x0, .int x1]) hd ho (j := 246) (by decide +kernel) rfl ⟨rfl, by decide, rfl⟩ rfl (Nat.le_of_ble_eq_true rfl) h0 hc hM (K x σ' hF)
theorem k_291 {C : rCx} {d : Nat} {r : dM} {pc : Nat} {L : List (Option Value)} {st : List Value} {σ : rS} {Q : Option Value → rS → Prop} {x0 : Int32} {F : Int32 → rS → Prop} (hd : decode r.2.1 pc = .ok (.invokestatic 291, 3)) (ho : r.2.2.2.2.2.1 = 16) (h0 : 0 ≤ d) (hc : (st.map fun v => v.category).sum ≤ 8) (h : cI C 0 m_isSign [.int x0] σ F) (K : ∀ x σ', F x σ' → wG C (d + 1) r (pc + 3) L (.int x :: st) σ' Q) : wG C (d + 1) r pc L (.int x0 :: st) σ Q := by
  obtain ⟨x, σ', hM, hF⟩ := h
  exact s_cals (As := [.int x0]) hd ho (j := 245) (by decide +kernel) (by decide +kernel) rfl rfl rfl (Nat.le_of_ble_eq_true rfl) h0 hc hM (K x σ' hF)
theorem k_294 {C : rCx} {d : Nat} {r : dM} {pc : Nat} {L : List (Option Value)} {st : List Value} {σ : rS} {Q : Option Value → rS → Prop} {x0 : Int32} {F : Int32 → rS → Prop} (hd : decode r.2.1 pc = .ok (.invokevirtual 294, 3)) (ho : r.2.2.2.2.2.1 = 16) (h0 : 1 ≤ d) (hc : (st.map fun v => v.category).sum ≤ 8) (h : cI C 1 m_skip [.ref (co C), .int x0] σ F) (K : ∀ x σ', F x σ' → wG C (d + 1) r (pc + 3) L (.int x :: st) σ' Q) : wG C (d + 1) r pc L (.int x0 :: .ref (co C) :: st) σ Q := by
  obtain ⟨x, σ', hM, hF⟩ := h
  exact s_call (As := [.int x0]) hd ho (j := 241) (by decide +kernel) rfl ⟨rfl, by decide, rfl⟩ rfl (Nat.le_of_ble_eq_true rfl) h0 hc hM (K x σ' hF)
theorem k_297 {C : rCx} {d : Nat} {r : dM} {pc : Nat} {L : List (Option Value)} {st : List Value} {σ : rS} {Q : Option Value → rS → Prop} {x0 : Int32} {F : Int32 → rS → Prop} (hd : decode r.2.1 pc = .ok (.invokevirtual 297, 3)) (ho : r.2.2.2.2.2.1 = 16) (h0 : 4 ≤ d) (hc : (st.map fun v => v.category).sum ≤ 8) (h : cI C 4 m_take [.ref (co C), .int x0] σ F) (K : ∀ x σ', F x σ' → wG C (d + 1) r (pc + 3) L (.int x :: st) σ' Q) : wG C (d + 1) r pc L (.int x0 :: .ref (co C) :: st) σ Q := by
  obtain ⟨x, σ', hM, hF⟩ := h
  exact s_call (As := [.int x0]) hd ho (j := 247) (by decide +kernel) rfl ⟨rfl, by decide, rfl⟩ rfl (Nat.le_of_ble_eq_true rfl) h0 hc hM (K x σ' hF)
theorem k_309 {C : rCx} {d : Nat} {r : dM} {pc : Nat} {L : List (Option Value)} {st : List Value} {σ : rS} {Q : Option Value → rS → Prop}  {F : rS → Prop} (hd : decode r.2.1 pc = .ok (.invokevirtual 309, 3)) (ho : r.2.2.2.2.2.1 = 16) (h0 : 1 ≤ d) (hc : (st.map fun v => v.category).sum ≤ 8) (h : cV C 1 m_readNext [.ref (co C)] σ F) (K : ∀ σ', F σ' → wG C (d + 1) r (pc + 3) L st σ' Q) : wG C (d + 1) r pc L (.ref (co C) :: st) σ Q := by
  obtain ⟨σ', hM, hF⟩ := h
  exact s_call (As := []) hd ho (j := 251) (by decide +kernel) rfl ⟨rfl, by decide, rfl⟩ rfl (Nat.le_of_ble_eq_true rfl) h0 hc hM (K σ' hF)
theorem k_312 {C : rCx} {d : Nat} {r : dM} {pc : Nat} {L : List (Option Value)} {st : List Value} {σ : rS} {Q : Option Value → rS → Prop} {x0 : Int32} {x1 : Int32} {F : rS → Prop} (hd : decode r.2.1 pc = .ok (.invokevirtual 312, 3)) (ho : r.2.2.2.2.2.1 = 16) (h0 : 0 ≤ d) (hc : (st.map fun v => v.category).sum ≤ 8) (h : cV C 0 m_flaw [.ref (co C), .int x0, .int x1] σ F) (K : ∀ σ', F σ' → wG C (d + 1) r (pc + 3) L st σ' Q) : wG C (d + 1) r pc L (.int x1 :: .int x0 :: .ref (co C) :: st) σ Q := by
  obtain ⟨σ', hM, hF⟩ := h
  exact s_call (As := [.int x0, .int x1]) hd ho (j := 250) (by decide +kernel) rfl ⟨rfl, by decide, rfl⟩ rfl (Nat.le_of_ble_eq_true rfl) h0 hc hM (K σ' hF)
theorem k_316 {C : rCx} {d : Nat} {r : dM} {pc : Nat} {L : List (Option Value)} {st : List Value} {σ : rS} {Q : Option Value → rS → Prop} {x0 : Int32} {F : Int32 → rS → Prop} (hd : decode r.2.1 pc = .ok (.invokevirtual 316, 3)) (ho : r.2.2.2.2.2.1 = 16) (h0 : 0 ≤ d) (hc : (st.map fun v => v.category).sum ≤ 8) (h : cI C 0 m_isAt [.ref (co C), .int x0] σ F) (K : ∀ x σ', F x σ' → wG C (d + 1) r (pc + 3) L (.int x :: st) σ' Q) : wG C (d + 1) r pc L (.int x0 :: .ref (co C) :: st) σ Q := by
  obtain ⟨x, σ', hM, hF⟩ := h
  exact s_call (As := [.int x0]) hd ho (j := 253) (by decide +kernel) rfl ⟨rfl, by decide, rfl⟩ rfl (Nat.le_of_ble_eq_true rfl) h0 hc hM (K x σ' hF)
theorem k_319 {C : rCx} {d : Nat} {r : dM} {pc : Nat} {L : List (Option Value)} {st : List Value} {σ : rS} {Q : Option Value → rS → Prop}  {F : rS → Prop} (hd : decode r.2.1 pc = .ok (.invokevirtual 319, 3)) (ho : r.2.2.2.2.2.1 = 16) (h0 : 2 ≤ d) (hc : (st.map fun v => v.category).sum ≤ 8) (h : cV C 2 m_go [.ref (co C)] σ F) (K : ∀ σ', F σ' → wG C (d + 1) r (pc + 3) L st σ' Q) : wG C (d + 1) r pc L (.ref (co C) :: st) σ Q := by
  obtain ⟨σ', hM, hF⟩ := h
  exact s_call (As := []) hd ho (j := 252) (by decide +kernel) rfl ⟨rfl, by decide, rfl⟩ rfl (Nat.le_of_ble_eq_true rfl) h0 hc hM (K σ' hF)
theorem k_325 {C : rCx} {d : Nat} {r : dM} {pc : Nat} {L : List (Option Value)} {st : List Value} {σ : rS} {Q : Option Value → rS → Prop}  {F : Int32 → rS → Prop} (hd : decode r.2.1 pc = .ok (.invokevirtual 325, 3)) (ho : r.2.2.2.2.2.1 = 16) (h0 : 0 ≤ d) (hc : (st.map fun v => v.category).sum ≤ 8) (h : cI C 0 m_isRight [.ref (co C)] σ F) (K : ∀ x σ', F x σ' → wG C (d + 1) r (pc + 3) L (.int x :: st) σ' Q) : wG C (d + 1) r pc L (.ref (co C) :: st) σ Q := by
  obtain ⟨x, σ', hM, hF⟩ := h
  exact s_call (As := []) hd ho (j := 249) (by decide +kernel) rfl ⟨rfl, by decide, rfl⟩ rfl (Nat.le_of_ble_eq_true rfl) h0 hc hM (K x σ' hF)
theorem k_329 {C : rCx} {d : Nat} {r : dM} {pc : Nat} {L : List (Option Value)} {st : List Value} {σ : rS} {Q : Option Value → rS → Prop} {x0 : Int32} {F : rS → Prop} (hd : decode r.2.1 pc = .ok (.invokevirtual 329, 3)) (ho : r.2.2.2.2.2.1 = 16) (h0 : 3 ≤ d) (hc : (st.map fun v => v.category).sum ≤ 8) (h : cV C 3 m_sign [.ref (co C), .int x0] σ F) (K : ∀ σ', F σ' → wG C (d + 1) r (pc + 3) L st σ' Q) : wG C (d + 1) r pc L (.int x0 :: .ref (co C) :: st) σ Q := by
  obtain ⟨σ', hM, hF⟩ := h
  exact s_call (As := [.int x0]) hd ho (j := 256) (by decide +kernel) rfl ⟨rfl, by decide, rfl⟩ rfl (Nat.le_of_ble_eq_true rfl) h0 hc hM (K σ' hF)
theorem k_336 {C : rCx} {d : Nat} {r : dM} {pc : Nat} {L : List (Option Value)} {st : List Value} {σ : rS} {Q : Option Value → rS → Prop} {x0 : Int32} {x1 : Int32} {F : Int32 → rS → Prop} (hd : decode r.2.1 pc = .ok (.invokevirtual 336, 3)) (ho : r.2.2.2.2.2.1 = 16) (h0 : 0 ≤ d) (hc : (st.map fun v => v.category).sum ≤ 8) (h : cI C 0 m_isSame [.ref (co C), .int x0, .int x1] σ F) (K : ∀ x σ', F x σ' → wG C (d + 1) r (pc + 3) L (.int x :: st) σ' Q) : wG C (d + 1) r pc L (.int x1 :: .int x0 :: .ref (co C) :: st) σ Q := by
  obtain ⟨x, σ', hM, hF⟩ := h
  exact s_call (As := [.int x0, .int x1]) hd ho (j := 260) (by decide +kernel) rfl ⟨rfl, by decide, rfl⟩ rfl (Nat.le_of_ble_eq_true rfl) h0 hc hM (K x σ' hF)
theorem k_349 {C : rCx} {d : Nat} {r : dM} {pc : Nat} {L : List (Option Value)} {st : List Value} {σ : rS} {Q : Option Value → rS → Prop} {x0 : Int32} {F : Int32 → rS → Prop} (hd : decode r.2.1 pc = .ok (.invokevirtual 349, 3)) (ho : r.2.2.2.2.2.1 = 16) (h0 : 1 ≤ d) (hc : (st.map fun v => v.category).sum ≤ 8) (h : cI C 1 m_due [.ref (co C), .int x0] σ F) (K : ∀ x σ', F x σ' → wG C (d + 1) r (pc + 3) L (.int x :: st) σ' Q) : wG C (d + 1) r pc L (.int x0 :: .ref (co C) :: st) σ Q := by
  obtain ⟨x, σ', hM, hF⟩ := h
  exact s_call (As := [.int x0]) hd ho (j := 259) (by decide +kernel) rfl ⟨rfl, by decide, rfl⟩ rfl (Nat.le_of_ble_eq_true rfl) h0 hc hM (K x σ' hF)
theorem k_352 {C : rCx} {d : Nat} {r : dM} {pc : Nat} {L : List (Option Value)} {st : List Value} {σ : rS} {Q : Option Value → rS → Prop} {x0 : Int32} {F : Int32 → rS → Prop} (hd : decode r.2.1 pc = .ok (.invokevirtual 352, 3)) (ho : r.2.2.2.2.2.1 = 16) (h0 : 1 ≤ d) (hc : (st.map fun v => v.category).sum ≤ 8) (h : cI C 1 m_isTold [.ref (co C), .int x0] σ F) (K : ∀ x σ', F x σ' → wG C (d + 1) r (pc + 3) L (.int x :: st) σ' Q) : wG C (d + 1) r pc L (.int x0 :: .ref (co C) :: st) σ Q := by
  obtain ⟨x, σ', hM, hF⟩ := h
  exact s_call (As := [.int x0]) hd ho (j := 261) (by decide +kernel) rfl ⟨rfl, by decide, rfl⟩ rfl (Nat.le_of_ble_eq_true rfl) h0 hc hM (K x σ' hF)
theorem k_355 {C : rCx} {d : Nat} {r : dM} {pc : Nat} {L : List (Option Value)} {st : List Value} {σ : rS} {Q : Option Value → rS → Prop} {x0 : Int32} {x1 : Int32} {x2 : Int32} {F : Int32 → rS → Prop} (hd : decode r.2.1 pc = .ok (.invokevirtual 355, 3)) (ho : r.2.2.2.2.2.1 = 16) (h0 : 3 ≤ d) (hc : (st.map fun v => v.category).sum ≤ 8) (h : cI C 3 m_fresh [.ref (co C), .int x0, .int x1, .int x2] σ F) (K : ∀ x σ', F x σ' → wG C (d + 1) r (pc + 3) L (.int x :: st) σ' Q) : wG C (d + 1) r pc L (.int x2 :: .int x1 :: .int x0 :: .ref (co C) :: st) σ Q := by
  obtain ⟨x, σ', hM, hF⟩ := h
  exact s_call (As := [.int x0, .int x1, .int x2]) hd ho (j := 265) (by decide +kernel) rfl ⟨rfl, by decide, rfl⟩ rfl (Nat.le_of_ble_eq_true rfl) h0 hc hM (K x σ' hF)
theorem k_359 {C : rCx} {d : Nat} {r : dM} {pc : Nat} {L : List (Option Value)} {st : List Value} {σ : rS} {Q : Option Value → rS → Prop} {x0 : Int32} {F : rS → Prop} (hd : decode r.2.1 pc = .ok (.invokevirtual 359, 3)) (ho : r.2.2.2.2.2.1 = 16) (h0 : 3 ≤ d) (hc : (st.map fun v => v.category).sum ≤ 8) (h : cV C 3 m_open [.ref (co C), .int x0] σ F) (K : ∀ σ', F σ' → wG C (d + 1) r (pc + 3) L st σ' Q) : wG C (d + 1) r pc L (.int x0 :: .ref (co C) :: st) σ Q := by
  obtain ⟨σ', hM, hF⟩ := h
  exact s_call (As := [.int x0]) hd ho (j := 257) (by decide +kernel) rfl ⟨rfl, by decide, rfl⟩ rfl (Nat.le_of_ble_eq_true rfl) h0 hc hM (K σ' hF)
theorem k_362 {C : rCx} {d : Nat} {r : dM} {pc : Nat} {L : List (Option Value)} {st : List Value} {σ : rS} {Q : Option Value → rS → Prop} {x0 : Int32} {x1 : Int32} {x2 : Int32} {F : Int32 → rS → Prop} (hd : decode r.2.1 pc = .ok (.invokestatic 362, 3)) (ho : r.2.2.2.2.2.1 = 16) (h0 : 0 ≤ d) (hc : (st.map fun v => v.category).sum ≤ 8) (h : cI C 0 m_within [.int x0, .int x1, .int x2] σ F) (K : ∀ x σ', F x σ' → wG C (d + 1) r (pc + 3) L (.int x :: st) σ' Q) : wG C (d + 1) r pc L (.int x2 :: .int x1 :: .int x0 :: st) σ Q := by
  obtain ⟨x, σ', hM, hF⟩ := h
  exact s_cals (As := [.int x0, .int x1, .int x2]) hd ho (j := 234) (by decide +kernel) (by decide +kernel) rfl rfl rfl (Nat.le_of_ble_eq_true rfl) h0 hc hM (K x σ' hF)
theorem k_366 {C : rCx} {d : Nat} {r : dM} {pc : Nat} {L : List (Option Value)} {st : List Value} {σ : rS} {Q : Option Value → rS → Prop} {x0 : Int32} {F : rS → Prop} (hd : decode r.2.1 pc = .ok (.invokevirtual 366, 3)) (ho : r.2.2.2.2.2.1 = 16) (h0 : 4 ≤ d) (hc : (st.map fun v => v.category).sum ≤ 8) (h : cV C 4 m_close [.ref (co C), .int x0] σ F) (K : ∀ σ', F σ' → wG C (d + 1) r (pc + 3) L st σ' Q) : wG C (d + 1) r pc L (.int x0 :: .ref (co C) :: st) σ Q := by
  obtain ⟨σ', hM, hF⟩ := h
  exact s_call (As := [.int x0]) hd ho (j := 258) (by decide +kernel) rfl ⟨rfl, by decide, rfl⟩ rfl (Nat.le_of_ble_eq_true rfl) h0 hc hM (K σ' hF)
theorem k_372 {C : rCx} {d : Nat} {r : dM} {pc : Nat} {L : List (Option Value)} {st : List Value} {σ : rS} {Q : Option Value → rS → Prop}  {F : rS → Prop} (hd : decode r.2.1 pc = .ok (.invokevirtual 372, 3)) (ho : r.2.2.2.2.2.1 = 16) (h0 : 10 ≤ d) (hc : (st.map fun v => v.category).sum ≤ 8) (h : cV C 10 m_tellStatements [.ref (co C)] σ F) (K : ∀ σ', F σ' → wG C (d + 1) r (pc + 3) L st σ' Q) : wG C (d + 1) r pc L (.ref (co C) :: st) σ Q := by
  obtain ⟨σ', hM, hF⟩ := h
  exact s_call (As := []) hd ho (j := 293) (by decide +kernel) rfl ⟨rfl, by decide, rfl⟩ rfl (Nat.le_of_ble_eq_true rfl) h0 hc hM (K σ' hF)
theorem k_381 {C : rCx} {d : Nat} {r : dM} {pc : Nat} {L : List (Option Value)} {st : List Value} {σ : rS} {Q : Option Value → rS → Prop} {x0 : Int32} {x1 : Int32} {F : rS → Prop} (hd : decode r.2.1 pc = .ok (.invokevirtual 381, 3)) (ho : r.2.2.2.2.2.1 = 16) (h0 : 0 ≤ d) (hc : (st.map fun v => v.category).sum ≤ 8) (h : cV C 0 m_openBlock [.ref (co C), .int x0, .int x1] σ F) (K : ∀ σ', F σ' → wG C (d + 1) r (pc + 3) L st σ' Q) : wG C (d + 1) r pc L (.int x1 :: .int x0 :: .ref (co C) :: st) σ Q := by
  obtain ⟨σ', hM, hF⟩ := h
  exact s_call (As := [.int x0, .int x1]) hd ho (j := 268) (by decide +kernel) rfl ⟨rfl, by decide, rfl⟩ rfl (Nat.le_of_ble_eq_true rfl) h0 hc hM (K σ' hF)
theorem k_385 {C : rCx} {d : Nat} {r : dM} {pc : Nat} {L : List (Option Value)} {st : List Value} {σ : rS} {Q : Option Value → rS → Prop}  {F : rS → Prop} (hd : decode r.2.1 pc = .ok (.invokevirtual 385, 3)) (ho : r.2.2.2.2.2.1 = 16) (h0 : 9 ≤ d) (hc : (st.map fun v => v.category).sum ≤ 8) (h : cV C 9 m_tellStatement [.ref (co C)] σ F) (K : ∀ σ', F σ' → wG C (d + 1) r (pc + 3) L st σ' Q) : wG C (d + 1) r pc L (.ref (co C) :: st) σ Q := by
  obtain ⟨σ', hM, hF⟩ := h
  exact s_call (As := []) hd ho (j := 291) (by decide +kernel) rfl ⟨rfl, by decide, rfl⟩ rfl (Nat.le_of_ble_eq_true rfl) h0 hc hM (K σ' hF)
theorem k_388 {C : rCx} {d : Nat} {r : dM} {pc : Nat} {L : List (Option Value)} {st : List Value} {σ : rS} {Q : Option Value → rS → Prop}  {F : rS → Prop} (hd : decode r.2.1 pc = .ok (.invokevirtual 388, 3)) (ho : r.2.2.2.2.2.1 = 16) (h0 : 5 ≤ d) (hc : (st.map fun v => v.category).sum ≤ 8) (h : cV C 5 m_endBlock [.ref (co C)] σ F) (K : ∀ σ', F σ' → wG C (d + 1) r (pc + 3) L st σ' Q) : wG C (d + 1) r pc L (.ref (co C) :: st) σ Q := by
  obtain ⟨σ', hM, hF⟩ := h
  exact s_call (As := []) hd ho (j := 292) (by decide +kernel) rfl ⟨rfl, by decide, rfl⟩ rfl (Nat.le_of_ble_eq_true rfl) h0 hc hM (K σ' hF)
theorem k_391 {C : rCx} {d : Nat} {r : dM} {pc : Nat} {L : List (Option Value)} {st : List Value} {σ : rS} {Q : Option Value → rS → Prop} {x0 : Int32} {F : Int32 → rS → Prop} (hd : decode r.2.1 pc = .ok (.invokevirtual 391, 3)) (ho : r.2.2.2.2.2.1 = 16) (h0 : 0 ≤ d) (hc : (st.map fun v => v.category).sum ≤ 8) (h : cI C 0 m_isWord [.ref (co C), .int x0] σ F) (K : ∀ x σ', F x σ' → wG C (d + 1) r (pc + 3) L (.int x :: st) σ' Q) : wG C (d + 1) r pc L (.int x0 :: .ref (co C) :: st) σ Q := by
  obtain ⟨x, σ', hM, hF⟩ := h
  exact s_call (As := [.int x0]) hd ho (j := 255) (by decide +kernel) rfl ⟨rfl, by decide, rfl⟩ rfl (Nat.le_of_ble_eq_true rfl) h0 hc hM (K x σ' hF)
theorem k_394 {C : rCx} {d : Nat} {r : dM} {pc : Nat} {L : List (Option Value)} {st : List Value} {σ : rS} {Q : Option Value → rS → Prop}  {F : rS → Prop} (hd : decode r.2.1 pc = .ok (.invokevirtual 394, 3)) (ho : r.2.2.2.2.2.1 = 16) (h0 : 8 ≤ d) (hc : (st.map fun v => v.category).sum ≤ 8) (h : cV C 8 m_tellNamed [.ref (co C)] σ F) (K : ∀ σ', F σ' → wG C (d + 1) r (pc + 3) L st σ' Q) : wG C (d + 1) r pc L (.ref (co C) :: st) σ Q := by
  obtain ⟨σ', hM, hF⟩ := h
  exact s_call (As := []) hd ho (j := 289) (by decide +kernel) rfl ⟨rfl, by decide, rfl⟩ rfl (Nat.le_of_ble_eq_true rfl) h0 hc hM (K σ' hF)
theorem k_397 {C : rCx} {d : Nat} {r : dM} {pc : Nat} {L : List (Option Value)} {st : List Value} {σ : rS} {Q : Option Value → rS → Prop}  {F : rS → Prop} (hd : decode r.2.1 pc = .ok (.invokevirtual 397, 3)) (ho : r.2.2.2.2.2.1 = 16) (h0 : 7 ≤ d) (hc : (st.map fun v => v.category).sum ≤ 8) (h : cV C 7 m_tellLocal [.ref (co C)] σ F) (K : ∀ σ', F σ' → wG C (d + 1) r (pc + 3) L st σ' Q) : wG C (d + 1) r pc L (.ref (co C) :: st) σ Q := by
  obtain ⟨σ', hM, hF⟩ := h
  exact s_call (As := []) hd ho (j := 290) (by decide +kernel) rfl ⟨rfl, by decide, rfl⟩ rfl (Nat.le_of_ble_eq_true rfl) h0 hc hM (K σ' hF)
theorem k_400 {C : rCx} {d : Nat} {r : dM} {pc : Nat} {L : List (Option Value)} {st : List Value} {σ : rS} {Q : Option Value → rS → Prop} {x0 : Int32} {F : Int32 → rS → Prop} (hd : decode r.2.1 pc = .ok (.invokevirtual 400, 3)) (ho : r.2.2.2.2.2.1 = 16) (h0 : 1 ≤ d) (hc : (st.map fun v => v.category).sum ≤ 8) (h : cI C 1 m_newStatement [.ref (co C), .int x0] σ F) (K : ∀ x σ', F x σ' → wG C (d + 1) r (pc + 3) L (.int x :: st) σ' Q) : wG C (d + 1) r pc L (.int x0 :: .ref (co C) :: st) σ Q := by
  obtain ⟨x, σ', hM, hF⟩ := h
  exact s_call (As := [.int x0]) hd ho (j := 269) (by decide +kernel) rfl ⟨rfl, by decide, rfl⟩ rfl (Nat.le_of_ble_eq_true rfl) h0 hc hM (K x σ' hF)
theorem k_403 {C : rCx} {d : Nat} {r : dM} {pc : Nat} {L : List (Option Value)} {st : List Value} {σ : rS} {Q : Option Value → rS → Prop}  {F : Int32 → rS → Prop} (hd : decode r.2.1 pc = .ok (.invokevirtual 403, 3)) (ho : r.2.2.2.2.2.1 = 16) (h0 : 6 ≤ d) (hc : (st.map fun v => v.category).sum ≤ 8) (h : cI C 6 m_expression [.ref (co C)] σ F) (K : ∀ x σ', F x σ' → wG C (d + 1) r (pc + 3) L (.int x :: st) σ' Q) : wG C (d + 1) r pc L (.ref (co C) :: st) σ Q := by
  obtain ⟨x, σ', hM, hF⟩ := h
  exact s_call (As := []) hd ho (j := 286) (by decide +kernel) rfl ⟨rfl, by decide, rfl⟩ rfl (Nat.le_of_ble_eq_true rfl) h0 hc hM (K x σ' hF)
theorem k_407 {C : rCx} {d : Nat} {r : dM} {pc : Nat} {L : List (Option Value)} {st : List Value} {σ : rS} {Q : Option Value → rS → Prop}  {F : rS → Prop} (hd : decode r.2.1 pc = .ok (.invokevirtual 407, 3)) (ho : r.2.2.2.2.2.1 = 16) (h0 : 7 ≤ d) (hc : (st.map fun v => v.category).sum ≤ 8) (h : cV C 7 m_arguments [.ref (co C)] σ F) (K : ∀ σ', F σ' → wG C (d + 1) r (pc + 3) L st σ' Q) : wG C (d + 1) r pc L (.ref (co C) :: st) σ Q := by
  obtain ⟨σ', hM, hF⟩ := h
  exact s_call (As := []) hd ho (j := 287) (by decide +kernel) rfl ⟨rfl, by decide, rfl⟩ rfl (Nat.le_of_ble_eq_true rfl) h0 hc hM (K σ' hF)
theorem k_410 {C : rCx} {d : Nat} {r : dM} {pc : Nat} {L : List (Option Value)} {st : List Value} {σ : rS} {Q : Option Value → rS → Prop} {x0 : Int32} {F : Int32 → rS → Prop} (hd : decode r.2.1 pc = .ok (.invokevirtual 410, 3)) (ho : r.2.2.2.2.2.1 = 16) (h0 : 1 ≤ d) (hc : (st.map fun v => v.category).sum ≤ 8) (h : cI C 1 m_arrayOf [.ref (co C), .int x0] σ F) (K : ∀ x σ', F x σ' → wG C (d + 1) r (pc + 3) L (.int x :: st) σ' Q) : wG C (d + 1) r pc L (.int x0 :: .ref (co C) :: st) σ Q := by
  obtain ⟨x, σ', hM, hF⟩ := h
  exact s_call (As := [.int x0]) hd ho (j := 263) (by decide +kernel) rfl ⟨rfl, by decide, rfl⟩ rfl (Nat.le_of_ble_eq_true rfl) h0 hc hM (K x σ' hF)
theorem k_413 {C : rCx} {d : Nat} {r : dM} {pc : Nat} {L : List (Option Value)} {st : List Value} {σ : rS} {Q : Option Value → rS → Prop} {x0 : Int32} {F : Int32 → rS → Prop} (hd : decode r.2.1 pc = .ok (.invokevirtual 413, 3)) (ho : r.2.2.2.2.2.1 = 16) (h0 : 1 ≤ d) (hc : (st.map fun v => v.category).sum ≤ 8) (h : cI C 1 m_variableOf [.ref (co C), .int x0] σ F) (K : ∀ x σ', F x σ' → wG C (d + 1) r (pc + 3) L (.int x :: st) σ' Q) : wG C (d + 1) r pc L (.int x0 :: .ref (co C) :: st) σ Q := by
  obtain ⟨x, σ', hM, hF⟩ := h
  exact s_call (As := [.int x0]) hd ho (j := 262) (by decide +kernel) rfl ⟨rfl, by decide, rfl⟩ rfl (Nat.le_of_ble_eq_true rfl) h0 hc hM (K x σ' hF)
theorem k_416 {C : rCx} {d : Nat} {r : dM} {pc : Nat} {L : List (Option Value)} {st : List Value} {σ : rS} {Q : Option Value → rS → Prop} {x0 : Int32} {x1 : Int32} {F : rS → Prop} (hd : decode r.2.1 pc = .ok (.invokevirtual 416, 3)) (ho : r.2.2.2.2.2.1 = 16) (h0 : 0 ≤ d) (hc : (st.map fun v => v.category).sum ≤ 8) (h : cV C 0 m_look [.ref (co C), .int x0, .int x1] σ F) (K : ∀ σ', F σ' → wG C (d + 1) r (pc + 3) L st σ' Q) : wG C (d + 1) r pc L (.int x1 :: .int x0 :: .ref (co C) :: st) σ Q := by
  obtain ⟨σ', hM, hF⟩ := h
  exact s_call (As := [.int x0, .int x1]) hd ho (j := 276) (by decide +kernel) rfl ⟨rfl, by decide, rfl⟩ rfl (Nat.le_of_ble_eq_true rfl) h0 hc hM (K σ' hF)
theorem k_419 {C : rCx} {d : Nat} {r : dM} {pc : Nat} {L : List (Option Value)} {st : List Value} {σ : rS} {Q : Option Value → rS → Prop}  {F : rS → Prop} (hd : decode r.2.1 pc = .ok (.invokevirtual 419, 3)) (ho : r.2.2.2.2.2.1 = 16) (h0 : 7 ≤ d) (hc : (st.map fun v => v.category).sum ≤ 8) (h : cV C 7 m_tellDraw [.ref (co C)] σ F) (K : ∀ σ', F σ' → wG C (d + 1) r (pc + 3) L st σ' Q) : wG C (d + 1) r pc L (.ref (co C) :: st) σ Q := by
  obtain ⟨σ', hM, hF⟩ := h
  exact s_call (As := []) hd ho (j := 288) (by decide +kernel) rfl ⟨rfl, by decide, rfl⟩ rfl (Nat.le_of_ble_eq_true rfl) h0 hc hM (K σ' hF)
theorem k_422 {C : rCx} {d : Nat} {r : dM} {pc : Nat} {L : List (Option Value)} {st : List Value} {σ : rS} {Q : Option Value → rS → Prop} {x0 : Int32} {F : Int32 → rS → Prop} (hd : decode r.2.1 pc = .ok (.invokevirtual 422, 3)) (ho : r.2.2.2.2.2.1 = 16) (h0 : 0 ≤ d) (hc : (st.map fun v => v.category).sum ≤ 8) (h : cI C 0 m_isNext [.ref (co C), .int x0] σ F) (K : ∀ x σ', F x σ' → wG C (d + 1) r (pc + 3) L (.int x :: st) σ' Q) : wG C (d + 1) r pc L (.int x0 :: .ref (co C) :: st) σ Q := by
  obtain ⟨x, σ', hM, hF⟩ := h
  exact s_call (As := [.int x0]) hd ho (j := 254) (by decide +kernel) rfl ⟨rfl, by decide, rfl⟩ rfl (Nat.le_of_ble_eq_true rfl) h0 hc hM (K x σ' hF)
theorem k_431 {C : rCx} {d : Nat} {r : dM} {pc : Nat} {L : List (Option Value)} {st : List Value} {σ : rS} {Q : Option Value → rS → Prop} {x0 : Int32} {F : Int32 → rS → Prop} (hd : decode r.2.1 pc = .ok (.invokestatic 431, 3)) (ho : r.2.2.2.2.2.1 = 16) (h0 : 0 ≤ d) (hc : (st.map fun v => v.category).sum ≤ 8) (h : cI C 0 m_truth [.int x0] σ F) (K : ∀ x σ', F x σ' → wG C (d + 1) r (pc + 3) L (.int x :: st) σ' Q) : wG C (d + 1) r pc L (.int x0 :: st) σ Q := by
  obtain ⟨x, σ', hM, hF⟩ := h
  exact s_cals (As := [.int x0]) hd ho (j := 273) (by decide +kernel) (by decide +kernel) rfl rfl rfl (Nat.le_of_ble_eq_true rfl) h0 hc hM (K x σ' hF)
theorem k_441 {C : rCx} {d : Nat} {r : dM} {pc : Nat} {L : List (Option Value)} {st : List Value} {σ : rS} {Q : Option Value → rS → Prop} {x0 : Int32} {F : Int32 → rS → Prop} (hd : decode r.2.1 pc = .ok (.invokestatic 441, 3)) (ho : r.2.2.2.2.2.1 = 16) (h0 : 0 ≤ d) (hc : (st.map fun v => v.category).sum ≤ 8) (h : cI C 0 m_rank [.int x0] σ F) (K : ∀ x σ', F x σ' → wG C (d + 1) r (pc + 3) L (.int x :: st) σ' Q) : wG C (d + 1) r pc L (.int x0 :: st) σ Q := by
  obtain ⟨x, σ', hM, hF⟩ := h
  exact s_cals (As := [.int x0]) hd ho (j := 280) (by decide +kernel) (by decide +kernel) rfl rfl rfl (Nat.le_of_ble_eq_true rfl) h0 hc hM (K x σ' hF)
theorem k_444 {C : rCx} {d : Nat} {r : dM} {pc : Nat} {L : List (Option Value)} {st : List Value} {σ : rS} {Q : Option Value → rS → Prop} {x0 : Int32} {x1 : Int32} {x2 : Int32} {F : Int32 → rS → Prop} (hd : decode r.2.1 pc = .ok (.invokestatic 444, 3)) (ho : r.2.2.2.2.2.1 = 16) (h0 : 1 ≤ d) (hc : (st.map fun v => v.category).sum ≤ 8) (h : cI C 1 m_compared [.int x0, .int x1, .int x2] σ F) (K : ∀ x σ', F x σ' → wG C (d + 1) r (pc + 3) L (.int x :: st) σ' Q) : wG C (d + 1) r pc L (.int x2 :: .int x1 :: .int x0 :: st) σ Q := by
  obtain ⟨x, σ', hM, hF⟩ := h
  exact s_cals (As := [.int x0, .int x1, .int x2]) hd ho (j := 281) (by decide +kernel) (by decide +kernel) rfl rfl rfl (Nat.le_of_ble_eq_true rfl) h0 hc hM (K x σ' hF)
theorem k_448 {C : rCx} {d : Nat} {r : dM} {pc : Nat} {L : List (Option Value)} {st : List Value} {σ : rS} {Q : Option Value → rS → Prop}  {F : Int32 → rS → Prop} (hd : decode r.2.1 pc = .ok (.invokevirtual 448, 3)) (ho : r.2.2.2.2.2.1 = 16) (h0 : 1 ≤ d) (hc : (st.map fun v => v.category).sum ≤ 8) (h : cI C 1 m_goesOn [.ref (co C)] σ F) (K : ∀ x σ', F x σ' → wG C (d + 1) r (pc + 3) L (.int x :: st) σ' Q) : wG C (d + 1) r pc L (.ref (co C) :: st) σ Q := by
  obtain ⟨x, σ', hM, hF⟩ := h
  exact s_call (As := []) hd ho (j := 270) (by decide +kernel) rfl ⟨rfl, by decide, rfl⟩ rfl (Nat.le_of_ble_eq_true rfl) h0 hc hM (K x σ' hF)
theorem k_451 {C : rCx} {d : Nat} {r : dM} {pc : Nat} {L : List (Option Value)} {st : List Value} {σ : rS} {Q : Option Value → rS → Prop}  {F : Int32 → rS → Prop} (hd : decode r.2.1 pc = .ok (.invokevirtual 451, 3)) (ho : r.2.2.2.2.2.1 = 16) (h0 : 0 ≤ d) (hc : (st.map fun v => v.category).sum ≤ 8) (h : cI C 0 m_top [.ref (co C)] σ F) (K : ∀ x σ', F x σ' → wG C (d + 1) r (pc + 3) L (.int x :: st) σ' Q) : wG C (d + 1) r pc L (.ref (co C) :: st) σ Q := by
  obtain ⟨x, σ', hM, hF⟩ := h
  exact s_call (As := []) hd ho (j := 272) (by decide +kernel) rfl ⟨rfl, by decide, rfl⟩ rfl (Nat.le_of_ble_eq_true rfl) h0 hc hM (K x σ' hF)
theorem k_454 {C : rCx} {d : Nat} {r : dM} {pc : Nat} {L : List (Option Value)} {st : List Value} {σ : rS} {Q : Option Value → rS → Prop}  {F : rS → Prop} (hd : decode r.2.1 pc = .ok (.invokevirtual 454, 3)) (ho : r.2.2.2.2.2.1 = 16) (h0 : 2 ≤ d) (hc : (st.map fun v => v.category).sum ≤ 8) (h : cV C 2 m_apply [.ref (co C)] σ F) (K : ∀ σ', F σ' → wG C (d + 1) r (pc + 3) L st σ' Q) : wG C (d + 1) r pc L (.ref (co C) :: st) σ Q := by
  obtain ⟨σ', hM, hF⟩ := h
  exact s_call (As := []) hd ho (j := 282) (by decide +kernel) rfl ⟨rfl, by decide, rfl⟩ rfl (Nat.le_of_ble_eq_true rfl) h0 hc hM (K σ' hF)
theorem k_457 {C : rCx} {d : Nat} {r : dM} {pc : Nat} {L : List (Option Value)} {st : List Value} {σ : rS} {Q : Option Value → rS → Prop}  {F : rS → Prop} (hd : decode r.2.1 pc = .ok (.invokevirtual 457, 3)) (ho : r.2.2.2.2.2.1 = 16) (h0 : 1 ≤ d) (hc : (st.map fun v => v.category).sum ≤ 8) (h : cV C 1 m_turn [.ref (co C)] σ F) (K : ∀ σ', F σ' → wG C (d + 1) r (pc + 3) L st σ' Q) : wG C (d + 1) r pc L (.ref (co C) :: st) σ Q := by
  obtain ⟨σ', hM, hF⟩ := h
  exact s_call (As := []) hd ho (j := 274) (by decide +kernel) rfl ⟨rfl, by decide, rfl⟩ rfl (Nat.le_of_ble_eq_true rfl) h0 hc hM (K σ' hF)
theorem k_460 {C : rCx} {d : Nat} {r : dM} {pc : Nat} {L : List (Option Value)} {st : List Value} {σ : rS} {Q : Option Value → rS → Prop} {x0 : Int32} {x1 : Int32} {F : rS → Prop} (hd : decode r.2.1 pc = .ok (.invokevirtual 460, 3)) (ho : r.2.2.2.2.2.1 = 16) (h0 : 0 ≤ d) (hc : (st.map fun v => v.category).sum ≤ 8) (h : cV C 0 m_hold [.ref (co C), .int x0, .int x1] σ F) (K : ∀ σ', F σ' → wG C (d + 1) r (pc + 3) L st σ' Q) : wG C (d + 1) r pc L (.int x1 :: .int x0 :: .ref (co C) :: st) σ Q := by
  obtain ⟨σ', hM, hF⟩ := h
  exact s_call (As := [.int x0, .int x1]) hd ho (j := 271) (by decide +kernel) rfl ⟨rfl, by decide, rfl⟩ rfl (Nat.le_of_ble_eq_true rfl) h0 hc hM (K σ' hF)
theorem k_463 {C : rCx} {d : Nat} {r : dM} {pc : Nat} {L : List (Option Value)} {st : List Value} {σ : rS} {Q : Option Value → rS → Prop} {x0 : Int32} {F : rS → Prop} (hd : decode r.2.1 pc = .ok (.invokevirtual 463, 3)) (ho : r.2.2.2.2.2.1 = 16) (h0 : 2 ≤ d) (hc : (st.map fun v => v.category).sum ≤ 8) (h : cV C 2 m_push [.ref (co C), .int x0] σ F) (K : ∀ σ', F σ' → wG C (d + 1) r (pc + 3) L st σ' Q) : wG C (d + 1) r pc L (.int x0 :: .ref (co C) :: st) σ Q := by
  obtain ⟨σ', hM, hF⟩ := h
  exact s_call (As := [.int x0]) hd ho (j := 275) (by decide +kernel) rfl ⟨rfl, by decide, rfl⟩ rfl (Nat.le_of_ble_eq_true rfl) h0 hc hM (K σ' hF)
theorem k_466 {C : rCx} {d : Nat} {r : dM} {pc : Nat} {L : List (Option Value)} {st : List Value} {σ : rS} {Q : Option Value → rS → Prop}  {F : Int32 → rS → Prop} (hd : decode r.2.1 pc = .ok (.invokevirtual 466, 3)) (ho : r.2.2.2.2.2.1 = 16) (h0 : 4 ≤ d) (hc : (st.map fun v => v.category).sum ≤ 8) (h : cI C 4 m_named [.ref (co C)] σ F) (K : ∀ x σ', F x σ' → wG C (d + 1) r (pc + 3) L (.int x :: st) σ' Q) : wG C (d + 1) r pc L (.ref (co C) :: st) σ Q := by
  obtain ⟨x, σ', hM, hF⟩ := h
  exact s_call (As := []) hd ho (j := 278) (by decide +kernel) rfl ⟨rfl, by decide, rfl⟩ rfl (Nat.le_of_ble_eq_true rfl) h0 hc hM (K x σ' hF)
theorem k_469 {C : rCx} {d : Nat} {r : dM} {pc : Nat} {L : List (Option Value)} {st : List Value} {σ : rS} {Q : Option Value → rS → Prop} {x0 : Int32} {F : Int32 → rS → Prop} (hd : decode r.2.1 pc = .ok (.invokevirtual 469, 3)) (ho : r.2.2.2.2.2.1 = 16) (h0 : 0 ≤ d) (hc : (st.map fun v => v.category).sum ≤ 8) (h : cI C 0 m_valueOf [.ref (co C), .int x0] σ F) (K : ∀ x σ', F x σ' → wG C (d + 1) r (pc + 3) L (.int x :: st) σ' Q) : wG C (d + 1) r pc L (.int x0 :: .ref (co C) :: st) σ Q := by
  obtain ⟨x, σ', hM, hF⟩ := h
  exact s_call (As := [.int x0]) hd ho (j := 277) (by decide +kernel) rfl ⟨rfl, by decide, rfl⟩ rfl (Nat.le_of_ble_eq_true rfl) h0 hc hM (K x σ' hF)
theorem k_472 {C : rCx} {d : Nat} {r : dM} {pc : Nat} {L : List (Option Value)} {st : List Value} {σ : rS} {Q : Option Value → rS → Prop} {x0 : Int32} {F : rS → Prop} (hd : decode r.2.1 pc = .ok (.invokevirtual 472, 3)) (ho : r.2.2.2.2.2.1 = 16) (h0 : 3 ≤ d) (hc : (st.map fun v => v.category).sum ≤ 8) (h : cV C 3 m_settle [.ref (co C), .int x0] σ F) (K : ∀ σ', F σ' → wG C (d + 1) r (pc + 3) L st σ' Q) : wG C (d + 1) r pc L (.int x0 :: .ref (co C) :: st) σ Q := by
  obtain ⟨σ', hM, hF⟩ := h
  exact s_call (As := [.int x0]) hd ho (j := 283) (by decide +kernel) rfl ⟨rfl, by decide, rfl⟩ rfl (Nat.le_of_ble_eq_true rfl) h0 hc hM (K σ' hF)
theorem k_475 {C : rCx} {d : Nat} {r : dM} {pc : Nat} {L : List (Option Value)} {st : List Value} {σ : rS} {Q : Option Value → rS → Prop} {x0 : Int32} {x1 : Int32} {F : Int32 → rS → Prop} (hd : decode r.2.1 pc = .ok (.invokevirtual 475, 3)) (ho : r.2.2.2.2.2.1 = 16) (h0 : 0 ≤ d) (hc : (st.map fun v => v.category).sum ≤ 8) (h : cI C 0 m_cellOf [.ref (co C), .int x0, .int x1] σ F) (K : ∀ x σ', F x σ' → wG C (d + 1) r (pc + 3) L (.int x :: st) σ' Q) : wG C (d + 1) r pc L (.int x1 :: .int x0 :: .ref (co C) :: st) σ Q := by
  obtain ⟨x, σ', hM, hF⟩ := h
  exact s_call (As := [.int x0, .int x1]) hd ho (j := 284) (by decide +kernel) rfl ⟨rfl, by decide, rfl⟩ rfl (Nat.le_of_ble_eq_true rfl) h0 hc hM (K x σ' hF)
theorem k_478 {C : rCx} {d : Nat} {r : dM} {pc : Nat} {L : List (Option Value)} {st : List Value} {σ : rS} {Q : Option Value → rS → Prop}  {F : Int32 → rS → Prop} (hd : decode r.2.1 pc = .ok (.invokevirtual 478, 3)) (ho : r.2.2.2.2.2.1 = 16) (h0 : 5 ≤ d) (hc : (st.map fun v => v.category).sum ≤ 8) (h : cI C 5 m_operand [.ref (co C)] σ F) (K : ∀ x σ', F x σ' → wG C (d + 1) r (pc + 3) L (.int x :: st) σ' Q) : wG C (d + 1) r pc L (.ref (co C) :: st) σ Q := by
  obtain ⟨x, σ', hM, hF⟩ := h
  exact s_call (As := []) hd ho (j := 279) (by decide +kernel) rfl ⟨rfl, by decide, rfl⟩ rfl (Nat.le_of_ble_eq_true rfl) h0 hc hM (K x σ' hF)
theorem k_481 {C : rCx} {d : Nat} {r : dM} {pc : Nat} {L : List (Option Value)} {st : List Value} {σ : rS} {Q : Option Value → rS → Prop}  {F : Int32 → rS → Prop} (hd : decode r.2.1 pc = .ok (.invokevirtual 481, 3)) (ho : r.2.2.2.2.2.1 = 16) (h0 : 5 ≤ d) (hc : (st.map fun v => v.category).sum ≤ 8) (h : cI C 5 m_behind [.ref (co C)] σ F) (K : ∀ x σ', F x σ' → wG C (d + 1) r (pc + 3) L (.int x :: st) σ' Q) : wG C (d + 1) r pc L (.ref (co C) :: st) σ Q := by
  obtain ⟨x, σ', hM, hF⟩ := h
  exact s_call (As := []) hd ho (j := 285) (by decide +kernel) rfl ⟨rfl, by decide, rfl⟩ rfl (Nat.le_of_ble_eq_true rfl) h0 hc hM (K x σ' hF)
theorem k_490 {C : rCx} {d : Nat} {r : dM} {pc : Nat} {L : List (Option Value)} {st : List Value} {σ : rS} {Q : Option Value → rS → Prop} {x0 : Nat} {x1 : Int32} {x2 : Int32} {F : rS → Prop} (hd : decode r.2.1 pc = .ok (.invokevirtual 490, 3)) (ho : r.2.2.2.2.2.1 = 16) (h0 : 0 ≤ d) (hc : (st.map fun v => v.category).sum ≤ 8) (h : cV C 0 m_swing [.ref (co C), .ref (cad C x0), .int x1, .int x2] σ F) (K : ∀ σ', F σ' → wG C (d + 1) r (pc + 3) L st σ' Q) : wG C (d + 1) r pc L (.int x2 :: .int x1 :: .ref (cad C x0) :: .ref (co C) :: st) σ Q := by
  obtain ⟨σ', hM, hF⟩ := h
  exact s_call (As := [.ref (cad C x0), .int x1, .int x2]) hd ho (j := 295) (by decide +kernel) rfl ⟨rfl, by decide, rfl⟩ rfl (Nat.le_of_ble_eq_true rfl) h0 hc hM (K σ' hF)
theorem k_495 {C : rCx} {d : Nat} {r : dM} {pc : Nat} {L : List (Option Value)} {st : List Value} {σ : rS} {Q : Option Value → rS → Prop}  {F : rS → Prop} (hd : decode r.2.1 pc = .ok (.invokevirtual 495, 3)) (ho : r.2.2.2.2.2.1 = 16) (h0 : 5 ≤ d) (hc : (st.map fun v => v.category).sum ≤ 8) (h : cV C 5 m_cutTape [.ref (co C)] σ F) (K : ∀ σ', F σ' → wG C (d + 1) r (pc + 3) L st σ' Q) : wG C (d + 1) r pc L (.ref (co C) :: st) σ Q := by
  obtain ⟨σ', hM, hF⟩ := h
  exact s_call (As := []) hd ho (j := 248) (by decide +kernel) rfl ⟨rfl, by decide, rfl⟩ rfl (Nat.le_of_ble_eq_true rfl) h0 hc hM (K σ' hF)
theorem k_498 {C : rCx} {d : Nat} {r : dM} {pc : Nat} {L : List (Option Value)} {st : List Value} {σ : rS} {Q : Option Value → rS → Prop}  {F : rS → Prop} (hd : decode r.2.1 pc = .ok (.invokevirtual 498, 3)) (ho : r.2.2.2.2.2.1 = 16) (h0 : 4 ≤ d) (hc : (st.map fun v => v.category).sum ≤ 8) (h : cV C 4 m_tellVar [.ref (co C)] σ F) (K : ∀ σ', F σ' → wG C (d + 1) r (pc + 3) L st σ' Q) : wG C (d + 1) r pc L (.ref (co C) :: st) σ Q := by
  obtain ⟨σ', hM, hF⟩ := h
  exact s_call (As := []) hd ho (j := 266) (by decide +kernel) rfl ⟨rfl, by decide, rfl⟩ rfl (Nat.le_of_ble_eq_true rfl) h0 hc hM (K σ' hF)
theorem k_501 {C : rCx} {d : Nat} {r : dM} {pc : Nat} {L : List (Option Value)} {st : List Value} {σ : rS} {Q : Option Value → rS → Prop}  {F : rS → Prop} (hd : decode r.2.1 pc = .ok (.invokevirtual 501, 3)) (ho : r.2.2.2.2.2.1 = 16) (h0 : 5 ≤ d) (hc : (st.map fun v => v.category).sum ≤ 8) (h : cV C 5 m_tellArr [.ref (co C)] σ F) (K : ∀ σ', F σ' → wG C (d + 1) r (pc + 3) L st σ' Q) : wG C (d + 1) r pc L (.ref (co C) :: st) σ Q := by
  obtain ⟨σ', hM, hF⟩ := h
  exact s_call (As := []) hd ho (j := 267) (by decide +kernel) rfl ⟨rfl, by decide, rfl⟩ rfl (Nat.le_of_ble_eq_true rfl) h0 hc hM (K σ' hF)
theorem k_504 {C : rCx} {d : Nat} {r : dM} {pc : Nat} {L : List (Option Value)} {st : List Value} {σ : rS} {Q : Option Value → rS → Prop}  {F : rS → Prop} (hd : decode r.2.1 pc = .ok (.invokevirtual 504, 3)) (ho : r.2.2.2.2.2.1 = 16) (h0 : 11 ≤ d) (hc : (st.map fun v => v.category).sum ≤ 8) (h : cV C 11 m_tellFunc [.ref (co C)] σ F) (K : ∀ σ', F σ' → wG C (d + 1) r (pc + 3) L st σ' Q) : wG C (d + 1) r pc L (.ref (co C) :: st) σ Q := by
  obtain ⟨σ', hM, hF⟩ := h
  exact s_call (As := []) hd ho (j := 294) (by decide +kernel) rfl ⟨rfl, by decide, rfl⟩ rfl (Nat.le_of_ble_eq_true rfl) h0 hc hM (K σ' hF)
theorem k_507 {C : rCx} {d : Nat} {r : dM} {pc : Nat} {L : List (Option Value)} {st : List Value} {σ : rS} {Q : Option Value → rS → Prop}  {F : rS → Prop} (hd : decode r.2.1 pc = .ok (.invokevirtual 507, 3)) (ho : r.2.2.2.2.2.1 = 16) (h0 : 2 ≤ d) (hc : (st.map fun v => v.category).sum ≤ 8) (h : cV C 2 m_lookAtCalls [.ref (co C)] σ F) (K : ∀ σ', F σ' → wG C (d + 1) r (pc + 3) L st σ' Q) : wG C (d + 1) r pc L (.ref (co C) :: st) σ Q := by
  obtain ⟨σ', hM, hF⟩ := h
  exact s_call (As := []) hd ho (j := 299) (by decide +kernel) rfl ⟨rfl, by decide, rfl⟩ rfl (Nat.le_of_ble_eq_true rfl) h0 hc hM (K σ' hF)
theorem k_510 {C : rCx} {d : Nat} {r : dM} {pc : Nat} {L : List (Option Value)} {st : List Value} {σ : rS} {Q : Option Value → rS → Prop} {x0 : Int32} {F : Int32 → rS → Prop} (hd : decode r.2.1 pc = .ok (.invokevirtual 510, 3)) (ho : r.2.2.2.2.2.1 = 16) (h0 : 0 ≤ d) (hc : (st.map fun v => v.category).sum ≤ 8) (h : cI C 0 m_calledBy [.ref (co C), .int x0] σ F) (K : ∀ x σ', F x σ' → wG C (d + 1) r (pc + 3) L (.int x :: st) σ' Q) : wG C (d + 1) r pc L (.int x0 :: .ref (co C) :: st) σ Q := by
  obtain ⟨x, σ', hM, hF⟩ := h
  exact s_call (As := [.int x0]) hd ho (j := 297) (by decide +kernel) rfl ⟨rfl, by decide, rfl⟩ rfl (Nat.le_of_ble_eq_true rfl) h0 hc hM (K x σ' hF)
theorem k_513 {C : rCx} {d : Nat} {r : dM} {pc : Nat} {L : List (Option Value)} {st : List Value} {σ : rS} {Q : Option Value → rS → Prop} {x0 : Int32} {F : Int32 → rS → Prop} (hd : decode r.2.1 pc = .ok (.invokevirtual 513, 3)) (ho : r.2.2.2.2.2.1 = 16) (h0 : 1 ≤ d) (hc : (st.map fun v => v.category).sum ≤ 8) (h : cI C 1 m_functionOf [.ref (co C), .int x0] σ F) (K : ∀ x σ', F x σ' → wG C (d + 1) r (pc + 3) L (.int x :: st) σ' Q) : wG C (d + 1) r pc L (.int x0 :: .ref (co C) :: st) σ Q := by
  obtain ⟨x, σ', hM, hF⟩ := h
  exact s_call (As := [.int x0]) hd ho (j := 264) (by decide +kernel) rfl ⟨rfl, by decide, rfl⟩ rfl (Nat.le_of_ble_eq_true rfl) h0 hc hM (K x σ' hF)
theorem k_516 {C : rCx} {d : Nat} {r : dM} {pc : Nat} {L : List (Option Value)} {st : List Value} {σ : rS} {Q : Option Value → rS → Prop} {x0 : Int32} {F : Int32 → rS → Prop} (hd : decode r.2.1 pc = .ok (.invokevirtual 516, 3)) (ho : r.2.2.2.2.2.1 = 16) (h0 : 0 ≤ d) (hc : (st.map fun v => v.category).sum ≤ 8) (h : cI C 0 m_countArguments [.ref (co C), .int x0] σ F) (K : ∀ x σ', F x σ' → wG C (d + 1) r (pc + 3) L (.int x :: st) σ' Q) : wG C (d + 1) r pc L (.int x0 :: .ref (co C) :: st) σ Q := by
  obtain ⟨x, σ', hM, hF⟩ := h
  exact s_call (As := [.int x0]) hd ho (j := 298) (by decide +kernel) rfl ⟨rfl, by decide, rfl⟩ rfl (Nat.le_of_ble_eq_true rfl) h0 hc hM (K x σ' hF)
theorem k_519 {C : rCx} {d : Nat} {r : dM} {pc : Nat} {L : List (Option Value)} {st : List Value} {σ : rS} {Q : Option Value → rS → Prop} {x0 : Int32} {F : rS → Prop} (hd : decode r.2.1 pc = .ok (.invokevirtual 519, 3)) (ho : r.2.2.2.2.2.1 = 16) (h0 : 1 ≤ d) (hc : (st.map fun v => v.category).sum ≤ 8) (h : cV C 1 m_swingAll [.ref (co C), .int x0] σ F) (K : ∀ σ', F σ' → wG C (d + 1) r (pc + 3) L st σ' Q) : wG C (d + 1) r pc L (.int x0 :: .ref (co C) :: st) σ Q := by
  obtain ⟨σ', hM, hF⟩ := h
  exact s_call (As := [.int x0]) hd ho (j := 296) (by decide +kernel) rfl ⟨rfl, by decide, rfl⟩ rfl (Nat.le_of_ble_eq_true rfl) h0 hc hM (K σ' hF)
theorem k_523 {C : rCx} {d : Nat} {r : dM} {pc : Nat} {L : List (Option Value)} {st : List Value} {σ : rS} {Q : Option Value → rS → Prop}  {F : rS → Prop} (hd : decode r.2.1 pc = .ok (.invokevirtual 523, 3)) (ho : r.2.2.2.2.2.1 = 16) (h0 : 12 ≤ d) (hc : (st.map fun v => v.category).sum ≤ 8) (h : cV C 12 m_tellProgram [.ref (co C)] σ F) (K : ∀ σ', F σ' → wG C (d + 1) r (pc + 3) L st σ' Q) : wG C (d + 1) r pc L (.ref (co C) :: st) σ Q := by
  obtain ⟨σ', hM, hF⟩ := h
  exact s_call (As := []) hd ho (j := 300) (by decide +kernel) rfl ⟨rfl, by decide, rfl⟩ rfl (Nat.le_of_ble_eq_true rfl) h0 hc hM (K σ' hF)
theorem k_557 {C : rCx} {d : Nat} {r : dM} {pc : Nat} {L : List (Option Value)} {st : List Value} {σ : rS} {Q : Option Value → rS → Prop} {x0 : Int32} {x1 : Int32} {F : rS → Prop} (hd : decode r.2.1 pc = .ok (.invokevirtual 557, 3)) (ho : r.2.2.2.2.2.1 = 16) (h0 : 0 ≤ d) (hc : (st.map fun v => v.category).sum ≤ 8) (h : cV C 0 m_store [.ref (co C), .int x0, .int x1] σ F) (K : ∀ σ', F σ' → wG C (d + 1) r (pc + 3) L st σ' Q) : wG C (d + 1) r pc L (.int x1 :: .int x0 :: .ref (co C) :: st) σ Q := by
  obtain ⟨σ', hM, hF⟩ := h
  exact s_call (As := [.int x0, .int x1]) hd ho (j := 303) (by decide +kernel) rfl ⟨rfl, by decide, rfl⟩ rfl (Nat.le_of_ble_eq_true rfl) h0 hc hM (K σ' hF)
theorem k_560 {C : rCx} {d : Nat} {r : dM} {pc : Nat} {L : List (Option Value)} {st : List Value} {σ : rS} {Q : Option Value → rS → Prop} {x0 : Int32} {F : Int32 → rS → Prop} (hd : decode r.2.1 pc = .ok (.invokevirtual 560, 3)) (ho : r.2.2.2.2.2.1 = 16) (h0 : 1 ≤ d) (hc : (st.map fun v => v.category).sum ≤ 8) (h : cI C 1 m_leave [.ref (co C), .int x0] σ F) (K : ∀ x σ', F x σ' → wG C (d + 1) r (pc + 3) L (.int x :: st) σ' Q) : wG C (d + 1) r pc L (.int x0 :: .ref (co C) :: st) σ Q := by
  obtain ⟨x, σ', hM, hF⟩ := h
  exact s_call (As := [.int x0]) hd ho (j := 304) (by decide +kernel) rfl ⟨rfl, by decide, rfl⟩ rfl (Nat.le_of_ble_eq_true rfl) h0 hc hM (K x σ' hF)
theorem k_563 {C : rCx} {d : Nat} {r : dM} {pc : Nat} {L : List (Option Value)} {st : List Value} {σ : rS} {Q : Option Value → rS → Prop} {x0 : Int32} {F : Int32 → rS → Prop} (hd : decode r.2.1 pc = .ok (.invokevirtual 563, 3)) (ho : r.2.2.2.2.2.1 = 16) (h0 : 2 ≤ d) (hc : (st.map fun v => v.category).sum ≤ 8) (h : cI C 2 m_moveTo [.ref (co C), .int x0] σ F) (K : ∀ x σ', F x σ' → wG C (d + 1) r (pc + 3) L (.int x :: st) σ' Q) : wG C (d + 1) r pc L (.int x0 :: .ref (co C) :: st) σ Q := by
  obtain ⟨x, σ', hM, hF⟩ := h
  exact s_call (As := [.int x0]) hd ho (j := 305) (by decide +kernel) rfl ⟨rfl, by decide, rfl⟩ rfl (Nat.le_of_ble_eq_true rfl) h0 hc hM (K x σ' hF)
theorem k_569 {C : rCx} {d : Nat} {r : dM} {pc : Nat} {L : List (Option Value)} {st : List Value} {σ : rS} {Q : Option Value → rS → Prop} {x0 : Int32} {F : Int32 → rS → Prop} (hd : decode r.2.1 pc = .ok (.invokevirtual 569, 3)) (ho : r.2.2.2.2.2.1 = 16) (h0 : 7 ≤ d) (hc : (st.map fun v => v.category).sum ≤ 8) (h : cI C 7 m_workAt [.ref (co C), .int x0] σ F) (K : ∀ x σ', F x σ' → wG C (d + 1) r (pc + 3) L (.int x :: st) σ' Q) : wG C (d + 1) r pc L (.int x0 :: .ref (co C) :: st) σ Q := by
  obtain ⟨x, σ', hM, hF⟩ := h
  exact s_call (As := [.int x0]) hd ho (j := 308) (by decide +kernel) rfl ⟨rfl, by decide, rfl⟩ rfl (Nat.le_of_ble_eq_true rfl) h0 hc hM (K x σ' hF)
theorem k_572 {C : rCx} {d : Nat} {r : dM} {pc : Nat} {L : List (Option Value)} {st : List Value} {σ : rS} {Q : Option Value → rS → Prop} {x0 : Int32} {F : Int32 → rS → Prop} (hd : decode r.2.1 pc = .ok (.invokevirtual 572, 3)) (ho : r.2.2.2.2.2.1 = 16) (h0 : 0 ≤ d) (hc : (st.map fun v => v.category).sum ≤ 8) (h : cI C 0 m_fail [.ref (co C), .int x0] σ F) (K : ∀ x σ', F x σ' → wG C (d + 1) r (pc + 3) L (.int x :: st) σ' Q) : wG C (d + 1) r pc L (.int x0 :: .ref (co C) :: st) σ Q := by
  obtain ⟨x, σ', hM, hF⟩ := h
  exact s_call (As := [.int x0]) hd ho (j := 307) (by decide +kernel) rfl ⟨rfl, by decide, rfl⟩ rfl (Nat.le_of_ble_eq_true rfl) h0 hc hM (K x σ' hF)
theorem k_578 {C : rCx} {d : Nat} {r : dM} {pc : Nat} {L : List (Option Value)} {st : List Value} {σ : rS} {Q : Option Value → rS → Prop} {x0 : Int32} {x1 : Int32} {F : rS → Prop} (hd : decode r.2.1 pc = .ok (.invokevirtual 578, 3)) (ho : r.2.2.2.2.2.1 = 16) (h0 : 0 ≤ d) (hc : (st.map fun v => v.category).sum ≤ 8) (h : cV C 0 m_outcome [.ref (co C), .int x0, .int x1] σ F) (K : ∀ σ', F σ' → wG C (d + 1) r (pc + 3) L st σ' Q) : wG C (d + 1) r pc L (.int x1 :: .int x0 :: .ref (co C) :: st) σ Q := by
  obtain ⟨σ', hM, hF⟩ := h
  exact s_call (As := [.int x0, .int x1]) hd ho (j := 311) (by decide +kernel) rfl ⟨rfl, by decide, rfl⟩ rfl (Nat.le_of_ble_eq_true rfl) h0 hc hM (K σ' hF)
theorem k_588 {C : rCx} {d : Nat} {r : dM} {pc : Nat} {L : List (Option Value)} {st : List Value} {σ : rS} {Q : Option Value → rS → Prop} {x0 : Int32} {F : Int32 → rS → Prop} (hd : decode r.2.1 pc = .ok (.invokevirtual 588, 3)) (ho : r.2.2.2.2.2.1 = 16) (h0 : 7 ≤ d) (hc : (st.map fun v => v.category).sum ≤ 8) (h : cI C 7 m_call [.ref (co C), .int x0] σ F) (K : ∀ x σ', F x σ' → wG C (d + 1) r (pc + 3) L (.int x :: st) σ' Q) : wG C (d + 1) r pc L (.int x0 :: .ref (co C) :: st) σ Q := by
  obtain ⟨x, σ', hM, hF⟩ := h
  exact s_call (As := [.int x0]) hd ho (j := 310) (by decide +kernel) rfl ⟨rfl, by decide, rfl⟩ rfl (Nat.le_of_ble_eq_true rfl) h0 hc hM (K x σ' hF)
theorem k_591 {C : rCx} {d : Nat} {r : dM} {pc : Nat} {L : List (Option Value)} {st : List Value} {σ : rS} {Q : Option Value → rS → Prop} {x0 : Int32} {F : rS → Prop} (hd : decode r.2.1 pc = .ok (.invokevirtual 591, 3)) (ho : r.2.2.2.2.2.1 = 16) (h0 : 8 ≤ d) (hc : (st.map fun v => v.category).sum ≤ 8) (h : cV C 8 m_findPlace [.ref (co C), .int x0] σ F) (K : ∀ σ', F σ' → wG C (d + 1) r (pc + 3) L st σ' Q) : wG C (d + 1) r pc L (.int x0 :: .ref (co C) :: st) σ Q := by
  obtain ⟨σ', hM, hF⟩ := h
  exact s_call (As := [.int x0]) hd ho (j := 309) (by decide +kernel) rfl ⟨rfl, by decide, rfl⟩ rfl (Nat.le_of_ble_eq_true rfl) h0 hc hM (K σ' hF)
theorem k_594 {C : rCx} {d : Nat} {r : dM} {pc : Nat} {L : List (Option Value)} {st : List Value} {σ : rS} {Q : Option Value → rS → Prop} {x0 : Int32} {F : Int32 → rS → Prop} (hd : decode r.2.1 pc = .ok (.invokevirtual 594, 3)) (ho : r.2.2.2.2.2.1 = 16) (h0 : 8 ≤ d) (hc : (st.map fun v => v.category).sum ≤ 8) (h : cI C 8 m_draw [.ref (co C), .int x0] σ F) (K : ∀ x σ', F x σ' → wG C (d + 1) r (pc + 3) L (.int x :: st) σ' Q) : wG C (d + 1) r pc L (.int x0 :: .ref (co C) :: st) σ Q := by
  obtain ⟨x, σ', hM, hF⟩ := h
  exact s_call (As := [.int x0]) hd ho (j := 312) (by decide +kernel) rfl ⟨rfl, by decide, rfl⟩ rfl (Nat.le_of_ble_eq_true rfl) h0 hc hM (K x σ' hF)
theorem k_597 {C : rCx} {d : Nat} {r : dM} {pc : Nat} {L : List (Option Value)} {st : List Value} {σ : rS} {Q : Option Value → rS → Prop} {x0 : Int32} {F : Int32 → rS → Prop} (hd : decode r.2.1 pc = .ok (.invokevirtual 597, 3)) (ho : r.2.2.2.2.2.1 = 16) (h0 : 8 ≤ d) (hc : (st.map fun v => v.category).sum ≤ 8) (h : cI C 8 m_choose [.ref (co C), .int x0] σ F) (K : ∀ x σ', F x σ' → wG C (d + 1) r (pc + 3) L (.int x :: st) σ' Q) : wG C (d + 1) r pc L (.int x0 :: .ref (co C) :: st) σ Q := by
  obtain ⟨x, σ', hM, hF⟩ := h
  exact s_call (As := [.int x0]) hd ho (j := 313) (by decide +kernel) rfl ⟨rfl, by decide, rfl⟩ rfl (Nat.le_of_ble_eq_true rfl) h0 hc hM (K x σ' hF)
theorem k_600 {C : rCx} {d : Nat} {r : dM} {pc : Nat} {L : List (Option Value)} {st : List Value} {σ : rS} {Q : Option Value → rS → Prop}  {F : Int32 → rS → Prop} (hd : decode r.2.1 pc = .ok (.invokevirtual 600, 3)) (ho : r.2.2.2.2.2.1 = 16) (h0 : 0 ≤ d) (hc : (st.map fun v => v.category).sum ≤ 8) (h : cI C 0 m_pack [.ref (co C)] σ F) (K : ∀ x σ', F x σ' → wG C (d + 1) r (pc + 3) L (.int x :: st) σ' Q) : wG C (d + 1) r pc L (.ref (co C) :: st) σ Q := by
  obtain ⟨x, σ', hM, hF⟩ := h
  exact s_call (As := []) hd ho (j := 316) (by decide +kernel) rfl ⟨rfl, by decide, rfl⟩ rfl (Nat.le_of_ble_eq_true rfl) h0 hc hM (K x σ' hF)
theorem k_603 {C : rCx} {d : Nat} {r : dM} {pc : Nat} {L : List (Option Value)} {st : List Value} {σ : rS} {Q : Option Value → rS → Prop} {x0 : Int32} {F : Int32 → rS → Prop} (hd : decode r.2.1 pc = .ok (.invokevirtual 603, 3)) (ho : r.2.2.2.2.2.1 = 16) (h0 : 0 ≤ d) (hc : (st.map fun v => v.category).sum ≤ 8) (h : cI C 0 m_isKey [.ref (co C), .int x0] σ F) (K : ∀ x σ', F x σ' → wG C (d + 1) r (pc + 3) L (.int x :: st) σ' Q) : wG C (d + 1) r pc L (.int x0 :: .ref (co C) :: st) σ Q := by
  obtain ⟨x, σ', hM, hF⟩ := h
  exact s_call (As := [.int x0]) hd ho (j := 318) (by decide +kernel) rfl ⟨rfl, by decide, rfl⟩ rfl (Nat.le_of_ble_eq_true rfl) h0 hc hM (K x σ' hF)
theorem k_606 {C : rCx} {d : Nat} {r : dM} {pc : Nat} {L : List (Option Value)} {st : List Value} {σ : rS} {Q : Option Value → rS → Prop}  {F : Int32 → rS → Prop} (hd : decode r.2.1 pc = .ok (.invokevirtual 606, 3)) (ho : r.2.2.2.2.2.1 = 16) (h0 : 1 ≤ d) (hc : (st.map fun v => v.category).sum ≤ 8) (h : cI C 1 m_stateNow [.ref (co C)] σ F) (K : ∀ x σ', F x σ' → wG C (d + 1) r (pc + 3) L (.int x :: st) σ' Q) : wG C (d + 1) r pc L (.ref (co C) :: st) σ Q := by
  obtain ⟨x, σ', hM, hF⟩ := h
  exact s_call (As := []) hd ho (j := 319) (by decide +kernel) rfl ⟨rfl, by decide, rfl⟩ rfl (Nat.le_of_ble_eq_true rfl) h0 hc hM (K x σ' hF)
theorem k_612 {C : rCx} {d : Nat} {r : dM} {pc : Nat} {L : List (Option Value)} {st : List Value} {σ : rS} {Q : Option Value → rS → Prop}  {F : Int32 → rS → Prop} (hd : decode r.2.1 pc = .ok (.invokevirtual 612, 3)) (ho : r.2.2.2.2.2.1 = 16) (h0 : 2 ≤ d) (hc : (st.map fun v => v.category).sum ≤ 8) (h : cI C 2 m_stateNumber [.ref (co C)] σ F) (K : ∀ x σ', F x σ' → wG C (d + 1) r (pc + 3) L (.int x :: st) σ' Q) : wG C (d + 1) r pc L (.ref (co C) :: st) σ Q := by
  obtain ⟨x, σ', hM, hF⟩ := h
  exact s_call (As := []) hd ho (j := 320) (by decide +kernel) rfl ⟨rfl, by decide, rfl⟩ rfl (Nat.le_of_ble_eq_true rfl) h0 hc hM (K x σ' hF)
theorem k_615 {C : rCx} {d : Nat} {r : dM} {pc : Nat} {L : List (Option Value)} {st : List Value} {σ : rS} {Q : Option Value → rS → Prop}  {F : Int32 → rS → Prop} (hd : decode r.2.1 pc = .ok (.invokevirtual 615, 3)) (ho : r.2.2.2.2.2.1 = 16) (h0 : 0 ≤ d) (hc : (st.map fun v => v.category).sum ≤ 8) (h : cI C 0 m_endingNumber [.ref (co C)] σ F) (K : ∀ x σ', F x σ' → wG C (d + 1) r (pc + 3) L (.int x :: st) σ' Q) : wG C (d + 1) r pc L (.ref (co C) :: st) σ Q := by
  obtain ⟨x, σ', hM, hF⟩ := h
  exact s_call (As := []) hd ho (j := 321) (by decide +kernel) rfl ⟨rfl, by decide, rfl⟩ rfl (Nat.le_of_ble_eq_true rfl) h0 hc hM (K x σ' hF)
theorem k_618 {C : rCx} {d : Nat} {r : dM} {pc : Nat} {L : List (Option Value)} {st : List Value} {σ : rS} {Q : Option Value → rS → Prop} {x0 : Int32} {F : rS → Prop} (hd : decode r.2.1 pc = .ok (.invokevirtual 618, 3)) (ho : r.2.2.2.2.2.1 = 16) (h0 : 0 ≤ d) (hc : (st.map fun v => v.category).sum ≤ 8) (h : cV C 0 m_unpack [.ref (co C), .int x0] σ F) (K : ∀ σ', F σ' → wG C (d + 1) r (pc + 3) L st σ' Q) : wG C (d + 1) r pc L (.int x0 :: .ref (co C) :: st) σ Q := by
  obtain ⟨σ', hM, hF⟩ := h
  exact s_call (As := [.int x0]) hd ho (j := 317) (by decide +kernel) rfl ⟨rfl, by decide, rfl⟩ rfl (Nat.le_of_ble_eq_true rfl) h0 hc hM (K σ' hF)
theorem k_621 {C : rCx} {d : Nat} {r : dM} {pc : Nat} {L : List (Option Value)} {st : List Value} {σ : rS} {Q : Option Value → rS → Prop}  {F : Int32 → rS → Prop} (hd : decode r.2.1 pc = .ok (.invokevirtual 621, 3)) (ho : r.2.2.2.2.2.1 = 16) (h0 : 9 ≤ d) (hc : (st.map fun v => v.category).sum ≤ 8) (h : cI C 9 m_act [.ref (co C)] σ F) (K : ∀ x σ', F x σ' → wG C (d + 1) r (pc + 3) L (.int x :: st) σ' Q) : wG C (d + 1) r pc L (.ref (co C) :: st) σ Q := by
  obtain ⟨x, σ', hM, hF⟩ := h
  exact s_call (As := []) hd ho (j := 314) (by decide +kernel) rfl ⟨rfl, by decide, rfl⟩ rfl (Nat.le_of_ble_eq_true rfl) h0 hc hM (K x σ' hF)
theorem k_624 {C : rCx} {d : Nat} {r : dM} {pc : Nat} {L : List (Option Value)} {st : List Value} {σ : rS} {Q : Option Value → rS → Prop} {x0 : Int32} {x1 : Int32} {x2 : Int32} {x3 : Int32} {F : Int32 → rS → Prop} (hd : decode r.2.1 pc = .ok (.invokevirtual 624, 3)) (ho : r.2.2.2.2.2.1 = 16) (h0 : 3 ≤ d) (hc : (st.map fun v => v.category).sum ≤ 8) (h : cI C 3 m_addNext [.ref (co C), .int x0, .int x1, .int x2, .int x3] σ F) (K : ∀ x σ', F x σ' → wG C (d + 1) r (pc + 3) L (.int x :: st) σ' Q) : wG C (d + 1) r pc L (.int x3 :: .int x2 :: .int x1 :: .int x0 :: .ref (co C) :: st) σ Q := by
  obtain ⟨x, σ', hM, hF⟩ := h
  exact s_call (As := [.int x0, .int x1, .int x2, .int x3]) hd ho (j := 322) (by decide +kernel) rfl ⟨rfl, by decide, rfl⟩ rfl (Nat.le_of_ble_eq_true rfl) h0 hc hM (K x σ' hF)
theorem k_628 {C : rCx} {d : Nat} {r : dM} {pc : Nat} {L : List (Option Value)} {st : List Value} {σ : rS} {Q : Option Value → rS → Prop} {x0 : Int32} {F : Int32 → rS → Prop} (hd : decode r.2.1 pc = .ok (.invokevirtual 628, 3)) (ho : r.2.2.2.2.2.1 = 16) (h0 : 3 ≤ d) (hc : (st.map fun v => v.category).sum ≤ 8) (h : cI C 3 m_get [.ref (co C), .int x0] σ F) (K : ∀ x σ', F x σ' → wG C (d + 1) r (pc + 3) L (.int x :: st) σ' Q) : wG C (d + 1) r pc L (.int x0 :: .ref (co C) :: st) σ Q := by
  obtain ⟨x, σ', hM, hF⟩ := h
  exact s_call (As := [.int x0]) hd ho (j := 315) (by decide +kernel) rfl ⟨rfl, by decide, rfl⟩ rfl (Nat.le_of_ble_eq_true rfl) h0 hc hM (K x σ' hF)
theorem k_631 {C : rCx} {d : Nat} {r : dM} {pc : Nat} {L : List (Option Value)} {st : List Value} {σ : rS} {Q : Option Value → rS → Prop}  {F : Int32 → rS → Prop} (hd : decode r.2.1 pc = .ok (.invokevirtual 631, 3)) (ho : r.2.2.2.2.2.1 = 16) (h0 : 3 ≤ d) (hc : (st.map fun v => v.category).sum ≤ 8) (h : cI C 3 m_begin [.ref (co C)] σ F) (K : ∀ x σ', F x σ' → wG C (d + 1) r (pc + 3) L (.int x :: st) σ' Q) : wG C (d + 1) r pc L (.ref (co C) :: st) σ Q := by
  obtain ⟨x, σ', hM, hF⟩ := h
  exact s_call (As := []) hd ho (j := 306) (by decide +kernel) rfl ⟨rfl, by decide, rfl⟩ rfl (Nat.le_of_ble_eq_true rfl) h0 hc hM (K x σ' hF)
theorem k_634 {C : rCx} {d : Nat} {r : dM} {pc : Nat} {L : List (Option Value)} {st : List Value} {σ : rS} {Q : Option Value → rS → Prop} {x0 : Int32} {F : Int32 → rS → Prop} (hd : decode r.2.1 pc = .ok (.invokevirtual 634, 3)) (ho : r.2.2.2.2.2.1 = 16) (h0 : 10 ≤ d) (hc : (st.map fun v => v.category).sum ≤ 8) (h : cI C 10 m_expand [.ref (co C), .int x0] σ F) (K : ∀ x σ', F x σ' → wG C (d + 1) r (pc + 3) L (.int x :: st) σ' Q) : wG C (d + 1) r pc L (.int x0 :: .ref (co C) :: st) σ Q := by
  obtain ⟨x, σ', hM, hF⟩ := h
  exact s_call (As := [.int x0]) hd ho (j := 323) (by decide +kernel) rfl ⟨rfl, by decide, rfl⟩ rfl (Nat.le_of_ble_eq_true rfl) h0 hc hM (K x σ' hF)
theorem k_637 {C : rCx} {d : Nat} {r : dM} {pc : Nat} {L : List (Option Value)} {st : List Value} {σ : rS} {Q : Option Value → rS → Prop}  {F : rS → Prop} (hd : decode r.2.1 pc = .ok (.invokevirtual 637, 3)) (ho : r.2.2.2.2.2.1 = 16) (h0 : 3 ≤ d) (hc : (st.map fun v => v.category).sum ≤ 8) (h : cV C 3 m_findRings [.ref (co C)] σ F) (K : ∀ σ', F σ' → wG C (d + 1) r (pc + 3) L st σ' Q) : wG C (d + 1) r pc L (.ref (co C) :: st) σ Q := by
  obtain ⟨σ', hM, hF⟩ := h
  exact s_call (As := []) hd ho (j := 331) (by decide +kernel) rfl ⟨rfl, by decide, rfl⟩ rfl (Nat.le_of_ble_eq_true rfl) h0 hc hM (K σ' hF)
theorem k_640 {C : rCx} {d : Nat} {r : dM} {pc : Nat} {L : List (Option Value)} {st : List Value} {σ : rS} {Q : Option Value → rS → Prop} {x0 : Int32} {x1 : Int32} {x2 : Int32} {F : Int32 → rS → Prop} (hd : decode r.2.1 pc = .ok (.invokevirtual 640, 3)) (ho : r.2.2.2.2.2.1 = 16) (h0 : 0 ≤ d) (hc : (st.map fun v => v.category).sum ≤ 8) (h : cI C 0 m_isTaken [.ref (co C), .int x0, .int x1, .int x2] σ F) (K : ∀ x σ', F x σ' → wG C (d + 1) r (pc + 3) L (.int x :: st) σ' Q) : wG C (d + 1) r pc L (.int x2 :: .int x1 :: .int x0 :: .ref (co C) :: st) σ Q := by
  obtain ⟨x, σ', hM, hF⟩ := h
  exact s_call (As := [.int x0, .int x1, .int x2]) hd ho (j := 324) (by decide +kernel) rfl ⟨rfl, by decide, rfl⟩ rfl (Nat.le_of_ble_eq_true rfl) h0 hc hM (K x σ' hF)
theorem k_644 {C : rCx} {d : Nat} {r : dM} {pc : Nat} {L : List (Option Value)} {st : List Value} {σ : rS} {Q : Option Value → rS → Prop} {x0 : Int32} {x1 : Int32} {F : Int32 → rS → Prop} (hd : decode r.2.1 pc = .ok (.invokevirtual 644, 3)) (ho : r.2.2.2.2.2.1 = 16) (h0 : 0 ≤ d) (hc : (st.map fun v => v.category).sum ≤ 8) (h : cI C 0 m_leads [.ref (co C), .int x0, .int x1] σ F) (K : ∀ x σ', F x σ' → wG C (d + 1) r (pc + 3) L (.int x :: st) σ' Q) : wG C (d + 1) r pc L (.int x1 :: .int x0 :: .ref (co C) :: st) σ Q := by
  obtain ⟨x, σ', hM, hF⟩ := h
  exact s_call (As := [.int x0, .int x1]) hd ho (j := 325) (by decide +kernel) rfl ⟨rfl, by decide, rfl⟩ rfl (Nat.le_of_ble_eq_true rfl) h0 hc hM (K x σ' hF)
theorem k_647 {C : rCx} {d : Nat} {r : dM} {pc : Nat} {L : List (Option Value)} {st : List Value} {σ : rS} {Q : Option Value → rS → Prop} {x0 : Int32} {x1 : Int32} {F : Int32 → rS → Prop} (hd : decode r.2.1 pc = .ok (.invokevirtual 647, 3)) (ho : r.2.2.2.2.2.1 = 16) (h0 : 1 ≤ d) (hc : (st.map fun v => v.category).sum ≤ 8) (h : cI C 1 m_endsAtOnce [.ref (co C), .int x0, .int x1] σ F) (K : ∀ x σ', F x σ' → wG C (d + 1) r (pc + 3) L (.int x :: st) σ' Q) : wG C (d + 1) r pc L (.int x1 :: .int x0 :: .ref (co C) :: st) σ Q := by
  obtain ⟨x, σ', hM, hF⟩ := h
  exact s_call (As := [.int x0, .int x1]) hd ho (j := 327) (by decide +kernel) rfl ⟨rfl, by decide, rfl⟩ rfl (Nat.le_of_ble_eq_true rfl) h0 hc hM (K x σ' hF)
theorem k_651 {C : rCx} {d : Nat} {r : dM} {pc : Nat} {L : List (Option Value)} {st : List Value} {σ : rS} {Q : Option Value → rS → Prop} {x0 : Int32} {x1 : Int32} {F : Int32 → rS → Prop} (hd : decode r.2.1 pc = .ok (.invokevirtual 651, 3)) (ho : r.2.2.2.2.2.1 = 16) (h0 : 1 ≤ d) (hc : (st.map fun v => v.category).sum ≤ 8) (h : cI C 1 m_isRingWith [.ref (co C), .int x0, .int x1] σ F) (K : ∀ x σ', F x σ' → wG C (d + 1) r (pc + 3) L (.int x :: st) σ' Q) : wG C (d + 1) r pc L (.int x1 :: .int x0 :: .ref (co C) :: st) σ Q := by
  obtain ⟨x, σ', hM, hF⟩ := h
  exact s_call (As := [.int x0, .int x1]) hd ho (j := 329) (by decide +kernel) rfl ⟨rfl, by decide, rfl⟩ rfl (Nat.le_of_ble_eq_true rfl) h0 hc hM (K x σ' hF)
theorem k_654 {C : rCx} {d : Nat} {r : dM} {pc : Nat} {L : List (Option Value)} {st : List Value} {σ : rS} {Q : Option Value → rS → Prop} {x0 : Int32} {x1 : Nat} {x2 : Int32} {F : rS → Prop} (hd : decode r.2.1 pc = .ok (.invokevirtual 654, 3)) (ho : r.2.2.2.2.2.1 = 16) (h0 : 1 ≤ d) (hc : (st.map fun v => v.category).sum ≤ 8) (h : cV C 1 m_findReach [.ref (co C), .int x0, .ref (cad C x1), .int x2] σ F) (K : ∀ σ', F σ' → wG C (d + 1) r (pc + 3) L st σ' Q) : wG C (d + 1) r pc L (.int x2 :: .ref (cad C x1) :: .int x0 :: .ref (co C) :: st) σ Q := by
  obtain ⟨σ', hM, hF⟩ := h
  exact s_call (As := [.int x0, .ref (cad C x1), .int x2]) hd ho (j := 326) (by decide +kernel) rfl ⟨rfl, by decide, rfl⟩ rfl (Nat.le_of_ble_eq_true rfl) h0 hc hM (K σ' hF)
theorem k_664 {C : rCx} {d : Nat} {r : dM} {pc : Nat} {L : List (Option Value)} {st : List Value} {σ : rS} {Q : Option Value → rS → Prop} {x0 : Int32} {x1 : Int32} {F : Int32 → rS → Prop} (hd : decode r.2.1 pc = .ok (.invokevirtual 664, 3)) (ho : r.2.2.2.2.2.1 = 16) (h0 : 2 ≤ d) (hc : (st.map fun v => v.category).sum ≤ 8) (h : cI C 2 m_canEnd [.ref (co C), .int x0, .int x1] σ F) (K : ∀ x σ', F x σ' → wG C (d + 1) r (pc + 3) L (.int x :: st) σ' Q) : wG C (d + 1) r pc L (.int x1 :: .int x0 :: .ref (co C) :: st) σ Q := by
  obtain ⟨x, σ', hM, hF⟩ := h
  exact s_call (As := [.int x0, .int x1]) hd ho (j := 328) (by decide +kernel) rfl ⟨rfl, by decide, rfl⟩ rfl (Nat.le_of_ble_eq_true rfl) h0 hc hM (K x σ' hF)
theorem k_667 {C : rCx} {d : Nat} {r : dM} {pc : Nat} {L : List (Option Value)} {st : List Value} {σ : rS} {Q : Option Value → rS → Prop} {x0 : Int32} {F : Int32 → rS → Prop} (hd : decode r.2.1 pc = .ok (.invokevirtual 667, 3)) (ho : r.2.2.2.2.2.1 = 16) (h0 : 2 ≤ d) (hc : (st.map fun v => v.category).sum ≤ 8) (h : cI C 2 m_ringOf [.ref (co C), .int x0] σ F) (K : ∀ x σ', F x σ' → wG C (d + 1) r (pc + 3) L (.int x :: st) σ' Q) : wG C (d + 1) r pc L (.int x0 :: .ref (co C) :: st) σ Q := by
  obtain ⟨x, σ', hM, hF⟩ := h
  exact s_call (As := [.int x0]) hd ho (j := 330) (by decide +kernel) rfl ⟨rfl, by decide, rfl⟩ rfl (Nat.le_of_ble_eq_true rfl) h0 hc hM (K x σ' hF)
theorem k_670 {C : rCx} {d : Nat} {r : dM} {pc : Nat} {L : List (Option Value)} {st : List Value} {σ : rS} {Q : Option Value → rS → Prop} {x0 : Int32} {F : Int32 → rS → Prop} (hd : decode r.2.1 pc = .ok (.invokevirtual 670, 3)) (ho : r.2.2.2.2.2.1 = 16) (h0 : 0 ≤ d) (hc : (st.map fun v => v.category).sum ≤ 8) (h : cI C 0 m_isState [.ref (co C), .int x0] σ F) (K : ∀ x σ', F x σ' → wG C (d + 1) r (pc + 3) L (.int x :: st) σ' Q) : wG C (d + 1) r pc L (.int x0 :: .ref (co C) :: st) σ Q := by
  obtain ⟨x, σ', hM, hF⟩ := h
  exact s_call (As := [.int x0]) hd ho (j := 334) (by decide +kernel) rfl ⟨rfl, by decide, rfl⟩ rfl (Nat.le_of_ble_eq_true rfl) h0 hc hM (K x σ' hF)
theorem k_673 {C : rCx} {d : Nat} {r : dM} {pc : Nat} {L : List (Option Value)} {st : List Value} {σ : rS} {Q : Option Value → rS → Prop} {x0 : Int32} {F : Int32 → rS → Prop} (hd : decode r.2.1 pc = .ok (.invokevirtual 673, 3)) (ho : r.2.2.2.2.2.1 = 16) (h0 : 0 ≤ d) (hc : (st.map fun v => v.category).sum ≤ 8) (h : cI C 0 m_latestAt [.ref (co C), .int x0] σ F) (K : ∀ x σ', F x σ' → wG C (d + 1) r (pc + 3) L (.int x :: st) σ' Q) : wG C (d + 1) r pc L (.int x0 :: .ref (co C) :: st) σ Q := by
  obtain ⟨x, σ', hM, hF⟩ := h
  exact s_call (As := [.int x0]) hd ho (j := 335) (by decide +kernel) rfl ⟨rfl, by decide, rfl⟩ rfl (Nat.le_of_ble_eq_true rfl) h0 hc hM (K x σ' hF)
theorem k_680 {C : rCx} {d : Nat} {r : dM} {pc : Nat} {L : List (Option Value)} {st : List Value} {σ : rS} {Q : Option Value → rS → Prop} {x0 : Int32} {F : rS → Prop} (hd : decode r.2.1 pc = .ok (.invokevirtual 680, 3)) (ho : r.2.2.2.2.2.1 = 16) (h0 : 0 ≤ d) (hc : (st.map fun v => v.category).sum ≤ 8) (h : cV C 0 m_trim [.ref (co C), .int x0] σ F) (K : ∀ σ', F σ' → wG C (d + 1) r (pc + 3) L st σ' Q) : wG C (d + 1) r pc L (.int x0 :: .ref (co C) :: st) σ Q := by
  obtain ⟨σ', hM, hF⟩ := h
  exact s_call (As := [.int x0]) hd ho (j := 343) (by decide +kernel) rfl ⟨rfl, by decide, rfl⟩ rfl (Nat.le_of_ble_eq_true rfl) h0 hc hM (K σ' hF)
theorem k_683 {C : rCx} {d : Nat} {r : dM} {pc : Nat} {L : List (Option Value)} {st : List Value} {σ : rS} {Q : Option Value → rS → Prop} {x0 : Int32} {x1 : Int32} {F : Int32 → rS → Prop} (hd : decode r.2.1 pc = .ok (.invokevirtual 683, 3)) (ho : r.2.2.2.2.2.1 = 16) (h0 : 0 ≤ d) (hc : (st.map fun v => v.category).sum ≤ 8) (h : cI C 0 m_compare [.ref (co C), .int x0, .int x1] σ F) (K : ∀ x σ', F x σ' → wG C (d + 1) r (pc + 3) L (.int x :: st) σ' Q) : wG C (d + 1) r pc L (.int x1 :: .int x0 :: .ref (co C) :: st) σ Q := by
  obtain ⟨x, σ', hM, hF⟩ := h
  exact s_call (As := [.int x0, .int x1]) hd ho (j := 345) (by decide +kernel) rfl ⟨rfl, by decide, rfl⟩ rfl (Nat.le_of_ble_eq_true rfl) h0 hc hM (K x σ' hF)
theorem k_687 {C : rCx} {d : Nat} {r : dM} {pc : Nat} {L : List (Option Value)} {st : List Value} {σ : rS} {Q : Option Value → rS → Prop} {x0 : Int32} {x1 : Int32} {F : rS → Prop} (hd : decode r.2.1 pc = .ok (.invokevirtual 687, 3)) (ho : r.2.2.2.2.2.1 = 16) (h0 : 1 ≤ d) (hc : (st.map fun v => v.category).sum ≤ 8) (h : cV C 1 m_shiftUp [.ref (co C), .int x0, .int x1] σ F) (K : ∀ σ', F σ' → wG C (d + 1) r (pc + 3) L st σ' Q) : wG C (d + 1) r pc L (.int x1 :: .int x0 :: .ref (co C) :: st) σ Q := by
  obtain ⟨σ', hM, hF⟩ := h
  exact s_call (As := [.int x0, .int x1]) hd ho (j := 349) (by decide +kernel) rfl ⟨rfl, by decide, rfl⟩ rfl (Nat.le_of_ble_eq_true rfl) h0 hc hM (K σ' hF)
theorem k_690 {C : rCx} {d : Nat} {r : dM} {pc : Nat} {L : List (Option Value)} {st : List Value} {σ : rS} {Q : Option Value → rS → Prop} {x0 : Int32} {x1 : Int32} {x2 : Int32} {F : Int32 → rS → Prop} (hd : decode r.2.1 pc = .ok (.invokevirtual 690, 3)) (ho : r.2.2.2.2.2.1 = 16) (h0 : 0 ≤ d) (hc : (st.map fun v => v.category).sum ≤ 8) (h : cI C 0 m_oneDigit [.ref (co C), .int x0, .int x1, .int x2] σ F) (K : ∀ x σ', F x σ' → wG C (d + 1) r (pc + 3) L (.int x :: st) σ' Q) : wG C (d + 1) r pc L (.int x2 :: .int x1 :: .int x0 :: .ref (co C) :: st) σ Q := by
  obtain ⟨x, σ', hM, hF⟩ := h
  exact s_call (As := [.int x0, .int x1, .int x2]) hd ho (j := 351) (by decide +kernel) rfl ⟨rfl, by decide, rfl⟩ rfl (Nat.le_of_ble_eq_true rfl) h0 hc hM (K x σ' hF)
theorem k_693 {C : rCx} {d : Nat} {r : dM} {pc : Nat} {L : List (Option Value)} {st : List Value} {σ : rS} {Q : Option Value → rS → Prop} {x0 : Int32} {x1 : Int32} {F : rS → Prop} (hd : decode r.2.1 pc = .ok (.invokevirtual 693, 3)) (ho : r.2.2.2.2.2.1 = 16) (h0 : 1 ≤ d) (hc : (st.map fun v => v.category).sum ≤ 8) (h : cV C 1 m_shiftDown [.ref (co C), .int x0, .int x1] σ F) (K : ∀ σ', F σ' → wG C (d + 1) r (pc + 3) L st σ' Q) : wG C (d + 1) r pc L (.int x1 :: .int x0 :: .ref (co C) :: st) σ Q := by
  obtain ⟨σ', hM, hF⟩ := h
  exact s_call (As := [.int x0, .int x1]) hd ho (j := 350) (by decide +kernel) rfl ⟨rfl, by decide, rfl⟩ rfl (Nat.le_of_ble_eq_true rfl) h0 hc hM (K σ' hF)
theorem k_696 {C : rCx} {d : Nat} {r : dM} {pc : Nat} {L : List (Option Value)} {st : List Value} {σ : rS} {Q : Option Value → rS → Prop} {x0 : Int32} {F : Int32 → rS → Prop} (hd : decode r.2.1 pc = .ok (.invokevirtual 696, 3)) (ho : r.2.2.2.2.2.1 = 16) (h0 : 0 ≤ d) (hc : (st.map fun v => v.category).sum ≤ 8) (h : cI C 0 m_isZero [.ref (co C), .int x0] σ F) (K : ∀ x σ', F x σ' → wG C (d + 1) r (pc + 3) L (.int x :: st) σ' Q) : wG C (d + 1) r pc L (.int x0 :: .ref (co C) :: st) σ Q := by
  obtain ⟨x, σ', hM, hF⟩ := h
  exact s_call (As := [.int x0]) hd ho (j := 353) (by decide +kernel) rfl ⟨rfl, by decide, rfl⟩ rfl (Nat.le_of_ble_eq_true rfl) h0 hc hM (K x σ' hF)
theorem k_699 {C : rCx} {d : Nat} {r : dM} {pc : Nat} {L : List (Option Value)} {st : List Value} {σ : rS} {Q : Option Value → rS → Prop} {x0 : Int32} {x1 : Int64} {F : rS → Prop} (hd : decode r.2.1 pc = .ok (.invokevirtual 699, 3)) (ho : r.2.2.2.2.2.1 = 16) (h0 : 0 ≤ d) (hc : (st.map fun v => v.category).sum ≤ 8) (h : cV C 0 m_set [.ref (co C), .int x0, .long x1] σ F) (K : ∀ σ', F σ' → wG C (d + 1) r (pc + 3) L st σ' Q) : wG C (d + 1) r pc L (.long x1 :: .int x0 :: .ref (co C) :: st) σ Q := by
  obtain ⟨σ', hM, hF⟩ := h
  exact s_call (As := [.int x0, .long x1]) hd ho (j := 342) (by decide +kernel) rfl ⟨rfl, by decide, rfl⟩ rfl (Nat.le_of_ble_eq_true rfl) h0 hc hM (K σ' hF)
theorem k_703 {C : rCx} {d : Nat} {r : dM} {pc : Nat} {L : List (Option Value)} {st : List Value} {σ : rS} {Q : Option Value → rS → Prop} {x0 : Int32} {x1 : Int32} {F : rS → Prop} (hd : decode r.2.1 pc = .ok (.invokevirtual 703, 3)) (ho : r.2.2.2.2.2.1 = 16) (h0 : 0 ≤ d) (hc : (st.map fun v => v.category).sum ≤ 8) (h : cV C 0 m_copy [.ref (co C), .int x0, .int x1] σ F) (K : ∀ σ', F σ' → wG C (d + 1) r (pc + 3) L st σ' Q) : wG C (d + 1) r pc L (.int x1 :: .int x0 :: .ref (co C) :: st) σ Q := by
  obtain ⟨σ', hM, hF⟩ := h
  exact s_call (As := [.int x0, .int x1]) hd ho (j := 344) (by decide +kernel) rfl ⟨rfl, by decide, rfl⟩ rfl (Nat.le_of_ble_eq_true rfl) h0 hc hM (K σ' hF)
theorem k_706 {C : rCx} {d : Nat} {r : dM} {pc : Nat} {L : List (Option Value)} {st : List Value} {σ : rS} {Q : Option Value → rS → Prop} {x0 : Int32} {x1 : Int32} {x2 : Int32} {F : rS → Prop} (hd : decode r.2.1 pc = .ok (.invokevirtual 706, 3)) (ho : r.2.2.2.2.2.1 = 16) (h0 : 2 ≤ d) (hc : (st.map fun v => v.category).sum ≤ 8) (h : cV C 2 m_divide [.ref (co C), .int x0, .int x1, .int x2] σ F) (K : ∀ σ', F σ' → wG C (d + 1) r (pc + 3) L st σ' Q) : wG C (d + 1) r pc L (.int x2 :: .int x1 :: .int x0 :: .ref (co C) :: st) σ Q := by
  obtain ⟨σ', hM, hF⟩ := h
  exact s_call (As := [.int x0, .int x1, .int x2]) hd ho (j := 352) (by decide +kernel) rfl ⟨rfl, by decide, rfl⟩ rfl (Nat.le_of_ble_eq_true rfl) h0 hc hM (K σ' hF)
theorem k_712 {C : rCx} {d : Nat} {r : dM} {pc : Nat} {L : List (Option Value)} {st : List Value} {σ : rS} {Q : Option Value → rS → Prop} {x0 : Int32} {x1 : Int32} {x2 : Int32} {F : rS → Prop} (hd : decode r.2.1 pc = .ok (.invokevirtual 712, 3)) (ho : r.2.2.2.2.2.1 = 16) (h0 : 1 ≤ d) (hc : (st.map fun v => v.category).sum ≤ 8) (h : cV C 1 m_times [.ref (co C), .int x0, .int x1, .int x2] σ F) (K : ∀ σ', F σ' → wG C (d + 1) r (pc + 3) L st σ' Q) : wG C (d + 1) r pc L (.int x2 :: .int x1 :: .int x0 :: .ref (co C) :: st) σ Q := by
  obtain ⟨σ', hM, hF⟩ := h
  exact s_call (As := [.int x0, .int x1, .int x2]) hd ho (j := 348) (by decide +kernel) rfl ⟨rfl, by decide, rfl⟩ rfl (Nat.le_of_ble_eq_true rfl) h0 hc hM (K σ' hF)
theorem k_715 {C : rCx} {d : Nat} {r : dM} {pc : Nat} {L : List (Option Value)} {st : List Value} {σ : rS} {Q : Option Value → rS → Prop} {x0 : Int32} {x1 : Int32} {F : rS → Prop} (hd : decode r.2.1 pc = .ok (.invokevirtual 715, 3)) (ho : r.2.2.2.2.2.1 = 16) (h0 : 1 ≤ d) (hc : (st.map fun v => v.category).sum ≤ 8) (h : cV C 1 m_plus [.ref (co C), .int x0, .int x1] σ F) (K : ∀ σ', F σ' → wG C (d + 1) r (pc + 3) L st σ' Q) : wG C (d + 1) r pc L (.int x1 :: .int x0 :: .ref (co C) :: st) σ Q := by
  obtain ⟨σ', hM, hF⟩ := h
  exact s_call (As := [.int x0, .int x1]) hd ho (j := 346) (by decide +kernel) rfl ⟨rfl, by decide, rfl⟩ rfl (Nat.le_of_ble_eq_true rfl) h0 hc hM (K σ' hF)
theorem k_718 {C : rCx} {d : Nat} {r : dM} {pc : Nat} {L : List (Option Value)} {st : List Value} {σ : rS} {Q : Option Value → rS → Prop} {x0 : Int32} {x1 : Int32} {F : rS → Prop} (hd : decode r.2.1 pc = .ok (.invokevirtual 718, 3)) (ho : r.2.2.2.2.2.1 = 16) (h0 : 1 ≤ d) (hc : (st.map fun v => v.category).sum ≤ 8) (h : cV C 1 m_minus [.ref (co C), .int x0, .int x1] σ F) (K : ∀ σ', F σ' → wG C (d + 1) r (pc + 3) L st σ' Q) : wG C (d + 1) r pc L (.int x1 :: .int x0 :: .ref (co C) :: st) σ Q := by
  obtain ⟨σ', hM, hF⟩ := h
  exact s_call (As := [.int x0, .int x1]) hd ho (j := 347) (by decide +kernel) rfl ⟨rfl, by decide, rfl⟩ rfl (Nat.le_of_ble_eq_true rfl) h0 hc hM (K σ' hF)
theorem k_721 {C : rCx} {d : Nat} {r : dM} {pc : Nat} {L : List (Option Value)} {st : List Value} {σ : rS} {Q : Option Value → rS → Prop} {x0 : Int32} {x1 : Int32} {F : rS → Prop} (hd : decode r.2.1 pc = .ok (.invokevirtual 721, 3)) (ho : r.2.2.2.2.2.1 = 16) (h0 : 3 ≤ d) (hc : (st.map fun v => v.category).sum ≤ 8) (h : cV C 3 m_reduce [.ref (co C), .int x0, .int x1] σ F) (K : ∀ σ', F σ' → wG C (d + 1) r (pc + 3) L st σ' Q) : wG C (d + 1) r pc L (.int x1 :: .int x0 :: .ref (co C) :: st) σ Q := by
  obtain ⟨σ', hM, hF⟩ := h
  exact s_call (As := [.int x0, .int x1]) hd ho (j := 354) (by decide +kernel) rfl ⟨rfl, by decide, rfl⟩ rfl (Nat.le_of_ble_eq_true rfl) h0 hc hM (K σ' hF)
theorem k_724 {C : rCx} {d : Nat} {r : dM} {pc : Nat} {L : List (Option Value)} {st : List Value} {σ : rS} {Q : Option Value → rS → Prop} {x0 : Int32} {x1 : Int32} {x2 : Int32} {F : rS → Prop} (hd : decode r.2.1 pc = .ok (.invokevirtual 724, 3)) (ho : r.2.2.2.2.2.1 = 16) (h0 : 0 ≤ d) (hc : (st.map fun v => v.category).sum ≤ 8) (h : cV C 0 m_load [.ref (co C), .int x0, .int x1, .int x2] σ F) (K : ∀ σ', F σ' → wG C (d + 1) r (pc + 3) L st σ' Q) : wG C (d + 1) r pc L (.int x2 :: .int x1 :: .int x0 :: .ref (co C) :: st) σ Q := by
  obtain ⟨σ', hM, hF⟩ := h
  exact s_call (As := [.int x0, .int x1, .int x2]) hd ho (j := 359) (by decide +kernel) rfl ⟨rfl, by decide, rfl⟩ rfl (Nat.le_of_ble_eq_true rfl) h0 hc hM (K σ' hF)
theorem k_727 {C : rCx} {d : Nat} {r : dM} {pc : Nat} {L : List (Option Value)} {st : List Value} {σ : rS} {Q : Option Value → rS → Prop} {x0 : Int32} {F : rS → Prop} (hd : decode r.2.1 pc = .ok (.invokevirtual 727, 3)) (ho : r.2.2.2.2.2.1 = 16) (h0 : 4 ≤ d) (hc : (st.map fun v => v.category).sum ≤ 8) (h : cV C 4 m_add [.ref (co C), .int x0] σ F) (K : ∀ σ', F σ' → wG C (d + 1) r (pc + 3) L st σ' Q) : wG C (d + 1) r pc L (.int x0 :: .ref (co C) :: st) σ Q := by
  obtain ⟨σ', hM, hF⟩ := h
  exact s_call (As := [.int x0]) hd ho (j := 356) (by decide +kernel) rfl ⟨rfl, by decide, rfl⟩ rfl (Nat.le_of_ble_eq_true rfl) h0 hc hM (K σ' hF)
theorem k_730 {C : rCx} {d : Nat} {r : dM} {pc : Nat} {L : List (Option Value)} {st : List Value} {σ : rS} {Q : Option Value → rS → Prop} {x0 : Int32} {x1 : Int32} {x2 : Int32} {F : rS → Prop} (hd : decode r.2.1 pc = .ok (.invokevirtual 730, 3)) (ho : r.2.2.2.2.2.1 = 16) (h0 : 0 ≤ d) (hc : (st.map fun v => v.category).sum ≤ 8) (h : cV C 0 m_keepIn [.ref (co C), .int x0, .int x1, .int x2] σ F) (K : ∀ σ', F σ' → wG C (d + 1) r (pc + 3) L st σ' Q) : wG C (d + 1) r pc L (.int x2 :: .int x1 :: .int x0 :: .ref (co C) :: st) σ Q := by
  obtain ⟨σ', hM, hF⟩ := h
  exact s_call (As := [.int x0, .int x1, .int x2]) hd ho (j := 358) (by decide +kernel) rfl ⟨rfl, by decide, rfl⟩ rfl (Nat.le_of_ble_eq_true rfl) h0 hc hM (K σ' hF)
theorem k_737 {C : rCx} {d : Nat} {r : dM} {pc : Nat} {L : List (Option Value)} {st : List Value} {σ : rS} {Q : Option Value → rS → Prop} {x0 : Int32} {F : rS → Prop} (hd : decode r.2.1 pc = .ok (.invokevirtual 737, 3)) (ho : r.2.2.2.2.2.1 = 16) (h0 : 0 ≤ d) (hc : (st.map fun v => v.category).sum ≤ 8) (h : cV C 0 m_loadVisits [.ref (co C), .int x0] σ F) (K : ∀ σ', F σ' → wG C (d + 1) r (pc + 3) L st σ' Q) : wG C (d + 1) r pc L (.int x0 :: .ref (co C) :: st) σ Q := by
  obtain ⟨σ', hM, hF⟩ := h
  exact s_call (As := [.int x0]) hd ho (j := 363) (by decide +kernel) rfl ⟨rfl, by decide, rfl⟩ rfl (Nat.le_of_ble_eq_true rfl) h0 hc hM (K σ' hF)
theorem k_740 {C : rCx} {d : Nat} {r : dM} {pc : Nat} {L : List (Option Value)} {st : List Value} {σ : rS} {Q : Option Value → rS → Prop} {x0 : Int32} {x1 : Int32} {F : Int64 → rS → Prop} (hd : decode r.2.1 pc = .ok (.invokevirtual 740, 3)) (ho : r.2.2.2.2.2.1 = 16) (h0 : 0 ≤ d) (hc : (st.map fun v => v.category).sum ≤ 8) (h : cJ C 0 m_weightOf [.ref (co C), .int x0, .int x1] σ F) (K : ∀ x σ', F x σ' → wG C (d + 1) r (pc + 3) L (.long x :: st) σ' Q) : wG C (d + 1) r pc L (.int x1 :: .int x0 :: .ref (co C) :: st) σ Q := by
  obtain ⟨x, σ', hM, hF⟩ := h
  exact s_call (As := [.int x0, .int x1]) hd ho (j := 364) (by decide +kernel) rfl ⟨rfl, by decide, rfl⟩ rfl (Nat.le_of_ble_eq_true rfl) h0 hc hM (K x σ' hF)
theorem k_744 {C : rCx} {d : Nat} {r : dM} {pc : Nat} {L : List (Option Value)} {st : List Value} {σ : rS} {Q : Option Value → rS → Prop} {x0 : Int32} {F : Int64 → rS → Prop} (hd : decode r.2.1 pc = .ok (.invokevirtual 744, 3)) (ho : r.2.2.2.2.2.1 = 16) (h0 : 0 ≤ d) (hc : (st.map fun v => v.category).sum ≤ 8) (h : cJ C 0 m_totalOf [.ref (co C), .int x0] σ F) (K : ∀ x σ', F x σ' → wG C (d + 1) r (pc + 3) L (.long x :: st) σ' Q) : wG C (d + 1) r pc L (.int x0 :: .ref (co C) :: st) σ Q := by
  obtain ⟨x, σ', hM, hF⟩ := h
  exact s_call (As := [.int x0]) hd ho (j := 365) (by decide +kernel) rfl ⟨rfl, by decide, rfl⟩ rfl (Nat.le_of_ble_eq_true rfl) h0 hc hM (K x σ' hF)
theorem k_748 {C : rCx} {d : Nat} {r : dM} {pc : Nat} {L : List (Option Value)} {st : List Value} {σ : rS} {Q : Option Value → rS → Prop} {x0 : Int64} {x1 : Int64} {F : rS → Prop} (hd : decode r.2.1 pc = .ok (.invokevirtual 748, 3)) (ho : r.2.2.2.2.2.1 = 16) (h0 : 4 ≤ d) (hc : (st.map fun v => v.category).sum ≤ 8) (h : cV C 4 m_scale [.ref (co C), .long x0, .long x1] σ F) (K : ∀ σ', F σ' → wG C (d + 1) r (pc + 3) L st σ' Q) : wG C (d + 1) r pc L (.long x1 :: .long x0 :: .ref (co C) :: st) σ Q := by
  obtain ⟨σ', hM, hF⟩ := h
  exact s_call (As := [.long x0, .long x1]) hd ho (j := 357) (by decide +kernel) rfl ⟨rfl, by decide, rfl⟩ rfl (Nat.le_of_ble_eq_true rfl) h0 hc hM (K σ' hF)
theorem k_752 {C : rCx} {d : Nat} {r : dM} {pc : Nat} {L : List (Option Value)} {st : List Value} {σ : rS} {Q : Option Value → rS → Prop} {x0 : Int32} {F : rS → Prop} (hd : decode r.2.1 pc = .ok (.invokevirtual 752, 3)) (ho : r.2.2.2.2.2.1 = 16) (h0 : 4 ≤ d) (hc : (st.map fun v => v.category).sum ≤ 8) (h : cV C 4 m_takeTimes [.ref (co C), .int x0] σ F) (K : ∀ σ', F σ' → wG C (d + 1) r (pc + 3) L st σ' Q) : wG C (d + 1) r pc L (.int x0 :: .ref (co C) :: st) σ Q := by
  obtain ⟨σ', hM, hF⟩ := h
  exact s_call (As := [.int x0]) hd ho (j := 366) (by decide +kernel) rfl ⟨rfl, by decide, rfl⟩ rfl (Nat.le_of_ble_eq_true rfl) h0 hc hM (K σ' hF)
theorem k_758 {C : rCx} {d : Nat} {r : dM} {pc : Nat} {L : List (Option Value)} {st : List Value} {σ : rS} {Q : Option Value → rS → Prop} {x0 : Int32} {x1 : Int64} {x2 : Int64} {F : rS → Prop} (hd : decode r.2.1 pc = .ok (.invokevirtual 758, 3)) (ho : r.2.2.2.2.2.1 = 16) (h0 : 4 ≤ d) (hc : (st.map fun v => v.category).sum ≤ 8) (h : cV C 4 m_keepSmall [.ref (co C), .int x0, .long x1, .long x2] σ F) (K : ∀ σ', F σ' → wG C (d + 1) r (pc + 3) L st σ' Q) : wG C (d + 1) r pc L (.long x2 :: .long x1 :: .int x0 :: .ref (co C) :: st) σ Q := by
  obtain ⟨σ', hM, hF⟩ := h
  exact s_call (As := [.int x0, .long x1, .long x2]) hd ho (j := 368) (by decide +kernel) rfl ⟨rfl, by decide, rfl⟩ rfl (Nat.le_of_ble_eq_true rfl) h0 hc hM (K σ' hF)
theorem k_762 {C : rCx} {d : Nat} {r : dM} {pc : Nat} {L : List (Option Value)} {st : List Value} {σ : rS} {Q : Option Value → rS → Prop}  {F : rS → Prop} (hd : decode r.2.1 pc = .ok (.invokevirtual 762, 3)) (ho : r.2.2.2.2.2.1 = 16) (h0 : 1 ≤ d) (hc : (st.map fun v => v.category).sum ≤ 8) (h : cV C 1 m_clearSum [.ref (co C)] σ F) (K : ∀ σ', F σ' → wG C (d + 1) r (pc + 3) L st σ' Q) : wG C (d + 1) r pc L (.ref (co C) :: st) σ Q := by
  obtain ⟨σ', hM, hF⟩ := h
  exact s_call (As := []) hd ho (j := 355) (by decide +kernel) rfl ⟨rfl, by decide, rfl⟩ rfl (Nat.le_of_ble_eq_true rfl) h0 hc hM (K σ' hF)
theorem k_765 {C : rCx} {d : Nat} {r : dM} {pc : Nat} {L : List (Option Value)} {st : List Value} {σ : rS} {Q : Option Value → rS → Prop} {x0 : Int32} {x1 : Int32} {x2 : Int32} {x3 : Int32} {F : rS → Prop} (hd : decode r.2.1 pc = .ok (.invokevirtual 765, 3)) (ho : r.2.2.2.2.2.1 = 16) (h0 : 5 ≤ d) (hc : (st.map fun v => v.category).sum ≤ 8) (h : cV C 5 m_addProduct [.ref (co C), .int x0, .int x1, .int x2, .int x3] σ F) (K : ∀ σ', F σ' → wG C (d + 1) r (pc + 3) L st σ' Q) : wG C (d + 1) r pc L (.int x3 :: .int x2 :: .int x1 :: .int x0 :: .ref (co C) :: st) σ Q := by
  obtain ⟨σ', hM, hF⟩ := h
  exact s_call (As := [.int x0, .int x1, .int x2, .int x3]) hd ho (j := 360) (by decide +kernel) rfl ⟨rfl, by decide, rfl⟩ rfl (Nat.le_of_ble_eq_true rfl) h0 hc hM (K σ' hF)
theorem k_769 {C : rCx} {d : Nat} {r : dM} {pc : Nat} {L : List (Option Value)} {st : List Value} {σ : rS} {Q : Option Value → rS → Prop}  {F : rS → Prop} (hd : decode r.2.1 pc = .ok (.invokevirtual 769, 3)) (ho : r.2.2.2.2.2.1 = 16) (h0 : 5 ≤ d) (hc : (st.map fun v => v.category).sum ≤ 8) (h : cV C 5 m_layRing [.ref (co C)] σ F) (K : ∀ σ', F σ' → wG C (d + 1) r (pc + 3) L st σ' Q) : wG C (d + 1) r pc L (.ref (co C) :: st) σ Q := by
  obtain ⟨σ', hM, hF⟩ := h
  exact s_call (As := []) hd ho (j := 369) (by decide +kernel) rfl ⟨rfl, by decide, rfl⟩ rfl (Nat.le_of_ble_eq_true rfl) h0 hc hM (K σ' hF)
theorem k_772 {C : rCx} {d : Nat} {r : dM} {pc : Nat} {L : List (Option Value)} {st : List Value} {σ : rS} {Q : Option Value → rS → Prop}  {F : rS → Prop} (hd : decode r.2.1 pc = .ok (.invokevirtual 772, 3)) (ho : r.2.2.2.2.2.1 = 16) (h0 : 6 ≤ d) (hc : (st.map fun v => v.category).sum ≤ 8) (h : cV C 6 m_foldRing [.ref (co C)] σ F) (K : ∀ σ', F σ' → wG C (d + 1) r (pc + 3) L st σ' Q) : wG C (d + 1) r pc L (.ref (co C) :: st) σ Q := by
  obtain ⟨σ', hM, hF⟩ := h
  exact s_call (As := []) hd ho (j := 370) (by decide +kernel) rfl ⟨rfl, by decide, rfl⟩ rfl (Nat.le_of_ble_eq_true rfl) h0 hc hM (K σ' hF)
theorem k_775 {C : rCx} {d : Nat} {r : dM} {pc : Nat} {L : List (Option Value)} {st : List Value} {σ : rS} {Q : Option Value → rS → Prop} {x0 : Int32} {F : rS → Prop} (hd : decode r.2.1 pc = .ok (.invokevirtual 775, 3)) (ho : r.2.2.2.2.2.1 = 16) (h0 : 6 ≤ d) (hc : (st.map fun v => v.category).sum ≤ 8) (h : cV C 6 m_visitFrom [.ref (co C), .int x0] σ F) (K : ∀ σ', F σ' → wG C (d + 1) r (pc + 3) L st σ' Q) : wG C (d + 1) r pc L (.int x0 :: .ref (co C) :: st) σ Q := by
  obtain ⟨σ', hM, hF⟩ := h
  exact s_call (As := [.int x0]) hd ho (j := 371) (by decide +kernel) rfl ⟨rfl, by decide, rfl⟩ rfl (Nat.le_of_ble_eq_true rfl) h0 hc hM (K σ' hF)
theorem k_778 {C : rCx} {d : Nat} {r : dM} {pc : Nat} {L : List (Option Value)} {st : List Value} {σ : rS} {Q : Option Value → rS → Prop} {x0 : Int32} {x1 : Int32} {F : rS → Prop} (hd : decode r.2.1 pc = .ok (.invokevirtual 778, 3)) (ho : r.2.2.2.2.2.1 = 16) (h0 : 5 ≤ d) (hc : (st.map fun v => v.category).sum ≤ 8) (h : cV C 5 m_sumInflow [.ref (co C), .int x0, .int x1] σ F) (K : ∀ σ', F σ' → wG C (d + 1) r (pc + 3) L st σ' Q) : wG C (d + 1) r pc L (.int x1 :: .int x0 :: .ref (co C) :: st) σ Q := by
  obtain ⟨σ', hM, hF⟩ := h
  exact s_call (As := [.int x0, .int x1]) hd ho (j := 367) (by decide +kernel) rfl ⟨rfl, by decide, rfl⟩ rfl (Nat.le_of_ble_eq_true rfl) h0 hc hM (K σ' hF)
theorem k_781 {C : rCx} {d : Nat} {r : dM} {pc : Nat} {L : List (Option Value)} {st : List Value} {σ : rS} {Q : Option Value → rS → Prop} {x0 : Int32} {F : Int32 → rS → Prop} (hd : decode r.2.1 pc = .ok (.invokevirtual 781, 3)) (ho : r.2.2.2.2.2.1 = 16) (h0 : 0 ≤ d) (hc : (st.map fun v => v.category).sum ≤ 8) (h : cI C 0 m_isLong [.ref (co C), .int x0] σ F) (K : ∀ x σ', F x σ' → wG C (d + 1) r (pc + 3) L (.int x :: st) σ' Q) : wG C (d + 1) r pc L (.int x0 :: .ref (co C) :: st) σ Q := by
  obtain ⟨x, σ', hM, hF⟩ := h
  exact s_call (As := [.int x0]) hd ho (j := 361) (by decide +kernel) rfl ⟨rfl, by decide, rfl⟩ rfl (Nat.le_of_ble_eq_true rfl) h0 hc hM (K x σ' hF)
theorem k_784 {C : rCx} {d : Nat} {r : dM} {pc : Nat} {L : List (Option Value)} {st : List Value} {σ : rS} {Q : Option Value → rS → Prop} {x0 : Int32} {F : rS → Prop} (hd : decode r.2.1 pc = .ok (.invokevirtual 784, 3)) (ho : r.2.2.2.2.2.1 = 16) (h0 : 0 ≤ d) (hc : (st.map fun v => v.category).sum ≤ 8) (h : cV C 0 m_keepVisits [.ref (co C), .int x0] σ F) (K : ∀ σ', F σ' → wG C (d + 1) r (pc + 3) L st σ' Q) : wG C (d + 1) r pc L (.int x0 :: .ref (co C) :: st) σ Q := by
  obtain ⟨σ', hM, hF⟩ := h
  exact s_call (As := [.int x0]) hd ho (j := 362) (by decide +kernel) rfl ⟨rfl, by decide, rfl⟩ rfl (Nat.le_of_ble_eq_true rfl) h0 hc hM (K σ' hF)
theorem k_787 {C : rCx} {d : Nat} {r : dM} {pc : Nat} {L : List (Option Value)} {st : List Value} {σ : rS} {Q : Option Value → rS → Prop}  {F : rS → Prop} (hd : decode r.2.1 pc = .ok (.invokevirtual 787, 3)) (ho : r.2.2.2.2.2.1 = 16) (h0 : 3 ≤ d) (hc : (st.map fun v => v.category).sum ≤ 8) (h : cV C 3 m_findOrder [.ref (co C)] σ F) (K : ∀ σ', F σ' → wG C (d + 1) r (pc + 3) L st σ' Q) : wG C (d + 1) r pc L (.ref (co C) :: st) σ Q := by
  obtain ⟨σ', hM, hF⟩ := h
  exact s_call (As := []) hd ho (j := 373) (by decide +kernel) rfl ⟨rfl, by decide, rfl⟩ rfl (Nat.le_of_ble_eq_true rfl) h0 hc hM (K σ' hF)
theorem k_790 {C : rCx} {d : Nat} {r : dM} {pc : Nat} {L : List (Option Value)} {st : List Value} {σ : rS} {Q : Option Value → rS → Prop}  {F : Int32 → rS → Prop} (hd : decode r.2.1 pc = .ok (.invokevirtual 790, 3)) (ho : r.2.2.2.2.2.1 = 16) (h0 : 7 ≤ d) (hc : (st.map fun v => v.category).sum ≤ 8) (h : cI C 7 m_solveRing [.ref (co C)] σ F) (K : ∀ x σ', F x σ' → wG C (d + 1) r (pc + 3) L (.int x :: st) σ' Q) : wG C (d + 1) r pc L (.ref (co C) :: st) σ Q := by
  obtain ⟨x, σ', hM, hF⟩ := h
  exact s_call (As := []) hd ho (j := 372) (by decide +kernel) rfl ⟨rfl, by decide, rfl⟩ rfl (Nat.le_of_ble_eq_true rfl) h0 hc hM (K x σ' hF)
theorem k_793 {C : rCx} {d : Nat} {r : dM} {pc : Nat} {L : List (Option Value)} {st : List Value} {σ : rS} {Q : Option Value → rS → Prop} {x0 : Int32} {F : Int32 → rS → Prop} (hd : decode r.2.1 pc = .ok (.invokevirtual 793, 3)) (ho : r.2.2.2.2.2.1 = 16) (h0 : 0 ≤ d) (hc : (st.map fun v => v.category).sum ≤ 8) (h : cI C 0 m_isVisited [.ref (co C), .int x0] σ F) (K : ∀ x σ', F x σ' → wG C (d + 1) r (pc + 3) L (.int x :: st) σ' Q) : wG C (d + 1) r pc L (.int x0 :: .ref (co C) :: st) σ Q := by
  obtain ⟨x, σ', hM, hF⟩ := h
  exact s_call (As := [.int x0]) hd ho (j := 377) (by decide +kernel) rfl ⟨rfl, by decide, rfl⟩ rfl (Nat.le_of_ble_eq_true rfl) h0 hc hM (K x σ' hF)
theorem k_796 {C : rCx} {d : Nat} {r : dM} {pc : Nat} {L : List (Option Value)} {st : List Value} {σ : rS} {Q : Option Value → rS → Prop} {x0 : Int32} {x1 : Int32} {x2 : Int32} {F : Int32 → rS → Prop} (hd : decode r.2.1 pc = .ok (.invokevirtual 796, 3)) (ho : r.2.2.2.2.2.1 = 16) (h0 : 0 ≤ d) (hc : (st.map fun v => v.category).sum ≤ 8) (h : cI C 0 m_isMeant [.ref (co C), .int x0, .int x1, .int x2] σ F) (K : ∀ x σ', F x σ' → wG C (d + 1) r (pc + 3) L (.int x :: st) σ' Q) : wG C (d + 1) r pc L (.int x2 :: .int x1 :: .int x0 :: .ref (co C) :: st) σ Q := by
  obtain ⟨x, σ', hM, hF⟩ := h
  exact s_call (As := [.int x0, .int x1, .int x2]) hd ho (j := 376) (by decide +kernel) rfl ⟨rfl, by decide, rfl⟩ rfl (Nat.le_of_ble_eq_true rfl) h0 hc hM (K x σ' hF)
theorem k_799 {C : rCx} {d : Nat} {r : dM} {pc : Nat} {L : List (Option Value)} {st : List Value} {σ : rS} {Q : Option Value → rS → Prop} {x0 : Int32} {x1 : Int32} {x2 : Int64} {F : rS → Prop} (hd : decode r.2.1 pc = .ok (.invokevirtual 799, 3)) (ho : r.2.2.2.2.2.1 = 16) (h0 : 5 ≤ d) (hc : (st.map fun v => v.category).sum ≤ 8) (h : cV C 5 m_addWeight [.ref (co C), .int x0, .int x1, .long x2] σ F) (K : ∀ σ', F σ' → wG C (d + 1) r (pc + 3) L st σ' Q) : wG C (d + 1) r pc L (.long x2 :: .int x1 :: .int x0 :: .ref (co C) :: st) σ Q := by
  obtain ⟨σ', hM, hF⟩ := h
  exact s_call (As := [.int x0, .int x1, .long x2]) hd ho (j := 378) (by decide +kernel) rfl ⟨rfl, by decide, rfl⟩ rfl (Nat.le_of_ble_eq_true rfl) h0 hc hM (K σ' hF)
theorem k_803 {C : rCx} {d : Nat} {r : dM} {pc : Nat} {L : List (Option Value)} {st : List Value} {σ : rS} {Q : Option Value → rS → Prop} {x0 : Int32} {x1 : Int32} {x2 : Int32} {F : rS → Prop} (hd : decode r.2.1 pc = .ok (.invokevirtual 803, 3)) (ho : r.2.2.2.2.2.1 = 16) (h0 : 6 ≤ d) (hc : (st.map fun v => v.category).sum ≤ 8) (h : cV C 6 m_sumWeights [.ref (co C), .int x0, .int x1, .int x2] σ F) (K : ∀ σ', F σ' → wG C (d + 1) r (pc + 3) L st σ' Q) : wG C (d + 1) r pc L (.int x2 :: .int x1 :: .int x0 :: .ref (co C) :: st) σ Q := by
  obtain ⟨σ', hM, hF⟩ := h
  exact s_call (As := [.int x0, .int x1, .int x2]) hd ho (j := 379) (by decide +kernel) rfl ⟨rfl, by decide, rfl⟩ rfl (Nat.le_of_ble_eq_true rfl) h0 hc hM (K σ' hF)
theorem k_807 {C : rCx} {d : Nat} {r : dM} {pc : Nat} {L : List (Option Value)} {st : List Value} {σ : rS} {Q : Option Value → rS → Prop} {x0 : Int32} {x1 : Int32} {F : Int32 → rS → Prop} (hd : decode r.2.1 pc = .ok (.invokestatic 807, 3)) (ho : r.2.2.2.2.2.1 = 16) (h0 : 0 ≤ d) (hc : (st.map fun v => v.category).sum ≤ 8) (h : cI C 0 m_isSlot [.int x0, .int x1] σ F) (K : ∀ x σ', F x σ' → wG C (d + 1) r (pc + 3) L (.int x :: st) σ' Q) : wG C (d + 1) r pc L (.int x1 :: .int x0 :: st) σ Q := by
  obtain ⟨x, σ', hM, hF⟩ := h
  exact s_cals (As := [.int x0, .int x1]) hd ho (j := 375) (by decide +kernel) (by decide +kernel) rfl rfl rfl (Nat.le_of_ble_eq_true rfl) h0 hc hM (K x σ' hF)
theorem k_810 {C : rCx} {d : Nat} {r : dM} {pc : Nat} {L : List (Option Value)} {st : List Value} {σ : rS} {Q : Option Value → rS → Prop} {x0 : Int32} {x1 : Int32} {x2 : Int32} {x3 : Int32} {F : rS → Prop} (hd : decode r.2.1 pc = .ok (.invokevirtual 810, 3)) (ho : r.2.2.2.2.2.1 = 16) (h0 : 7 ≤ d) (hc : (st.map fun v => v.category).sum ≤ 8) (h : cV C 7 m_sumOver [.ref (co C), .int x0, .int x1, .int x2, .int x3] σ F) (K : ∀ σ', F σ' → wG C (d + 1) r (pc + 3) L st σ' Q) : wG C (d + 1) r pc L (.int x3 :: .int x2 :: .int x1 :: .int x0 :: .ref (co C) :: st) σ Q := by
  obtain ⟨σ', hM, hF⟩ := h
  exact s_call (As := [.int x0, .int x1, .int x2, .int x3]) hd ho (j := 381) (by decide +kernel) rfl ⟨rfl, by decide, rfl⟩ rfl (Nat.le_of_ble_eq_true rfl) h0 hc hM (K σ' hF)
theorem k_814 {C : rCx} {d : Nat} {r : dM} {pc : Nat} {L : List (Option Value)} {st : List Value} {σ : rS} {Q : Option Value → rS → Prop} {x0 : Int32} {F : rS → Prop} (hd : decode r.2.1 pc = .ok (.invokevirtual 814, 3)) (ho : r.2.2.2.2.2.1 = 16) (h0 : 5 ≤ d) (hc : (st.map fun v => v.category).sum ≤ 8) (h : cV C 5 m_sumVisits [.ref (co C), .int x0] σ F) (K : ∀ σ', F σ' → wG C (d + 1) r (pc + 3) L st σ' Q) : wG C (d + 1) r pc L (.int x0 :: .ref (co C) :: st) σ Q := by
  obtain ⟨σ', hM, hF⟩ := h
  exact s_call (As := [.int x0]) hd ho (j := 380) (by decide +kernel) rfl ⟨rfl, by decide, rfl⟩ rfl (Nat.le_of_ble_eq_true rfl) h0 hc hM (K σ' hF)
theorem k_817 {C : rCx} {d : Nat} {r : dM} {pc : Nat} {L : List (Option Value)} {st : List Value} {σ : rS} {Q : Option Value → rS → Prop} {x0 : Nat} {x1 : Int32} {F : rS → Prop} (hd : decode r.2.1 pc = .ok (.invokevirtual 817, 3)) (ho : r.2.2.2.2.2.1 = 16) (h0 : 0 ≤ d) (hc : (st.map fun v => v.category).sum ≤ 8) (h : cV C 0 m_loadWorth [.ref (co C), .ref (cad C x0), .int x1] σ F) (K : ∀ σ', F σ' → wG C (d + 1) r (pc + 3) L st σ' Q) : wG C (d + 1) r pc L (.int x1 :: .ref (cad C x0) :: .ref (co C) :: st) σ Q := by
  obtain ⟨σ', hM, hF⟩ := h
  exact s_call (As := [.ref (cad C x0), .int x1]) hd ho (j := 382) (by decide +kernel) rfl ⟨rfl, by decide, rfl⟩ rfl (Nat.le_of_ble_eq_true rfl) h0 hc hM (K σ' hF)
theorem k_824 {C : rCx} {d : Nat} {r : dM} {pc : Nat} {L : List (Option Value)} {st : List Value} {σ : rS} {Q : Option Value → rS → Prop} {x0 : Int32} {F : Int32 → rS → Prop} (hd : decode r.2.1 pc = .ok (.invokevirtual 824, 3)) (ho : r.2.2.2.2.2.1 = 16) (h0 : 0 ≤ d) (hc : (st.map fun v => v.category).sum ≤ 8) (h : cI C 0 m_numbersOf [.ref (co C), .int x0] σ F) (K : ∀ x σ', F x σ' → wG C (d + 1) r (pc + 3) L (.int x :: st) σ' Q) : wG C (d + 1) r pc L (.int x0 :: .ref (co C) :: st) σ Q := by
  obtain ⟨x, σ', hM, hF⟩ := h
  exact s_call (As := [.int x0]) hd ho (j := 384) (by decide +kernel) rfl ⟨rfl, by decide, rfl⟩ rfl (Nat.le_of_ble_eq_true rfl) h0 hc hM (K x σ' hF)
theorem k_844 {C : rCx} {d : Nat} {r : dM} {pc : Nat} {L : List (Option Value)} {st : List Value} {σ : rS} {Q : Option Value → rS → Prop}  {F : Int32 → rS → Prop} (hd : decode r.2.1 pc = .ok (.invokevirtual 844, 3)) (ho : r.2.2.2.2.2.1 = 16) (h0 : 1 ≤ d) (hc : (st.map fun v => v.category).sum ≤ 8) (h : cI C 1 m_drawn [.ref (co C)] σ F) (K : ∀ x σ', F x σ' → wG C (d + 1) r (pc + 3) L (.int x :: st) σ' Q) : wG C (d + 1) r pc L (.ref (co C) :: st) σ Q := by
  obtain ⟨x, σ', hM, hF⟩ := h
  exact s_call (As := []) hd ho (j := 389) (by decide +kernel) rfl ⟨rfl, by decide, rfl⟩ rfl (Nat.le_of_ble_eq_true rfl) h0 hc hM (K x σ' hF)
theorem k_853 {C : rCx} {d : Nat} {r : dM} {pc : Nat} {L : List (Option Value)} {st : List Value} {σ : rS} {Q : Option Value → rS → Prop}  {F : Int32 → rS → Prop} (hd : decode r.2.1 pc = .ok (.invokevirtual 853, 3)) (ho : r.2.2.2.2.2.1 = 16) (h0 : 4 ≤ d) (hc : (st.map fun v => v.category).sum ≤ 8) (h : cI C 4 m_draws [.ref (co C)] σ F) (K : ∀ x σ', F x σ' → wG C (d + 1) r (pc + 3) L (.int x :: st) σ' Q) : wG C (d + 1) r pc L (.ref (co C) :: st) σ Q := by
  obtain ⟨x, σ', hM, hF⟩ := h
  exact s_call (As := []) hd ho (j := 390) (by decide +kernel) rfl ⟨rfl, by decide, rfl⟩ rfl (Nat.le_of_ble_eq_true rfl) h0 hc hM (K x σ' hF)
theorem k_856 {C : rCx} {d : Nat} {r : dM} {pc : Nat} {L : List (Option Value)} {st : List Value} {σ : rS} {Q : Option Value → rS → Prop}  {F : Int32 → rS → Prop} (hd : decode r.2.1 pc = .ok (.invokevirtual 856, 3)) (ho : r.2.2.2.2.2.1 = 16) (h0 : 4 ≤ d) (hc : (st.map fun v => v.category).sum ≤ 8) (h : cI C 4 m_chooses [.ref (co C)] σ F) (K : ∀ x σ', F x σ' → wG C (d + 1) r (pc + 3) L (.int x :: st) σ' Q) : wG C (d + 1) r pc L (.ref (co C) :: st) σ Q := by
  obtain ⟨x, σ', hM, hF⟩ := h
  exact s_call (As := []) hd ho (j := 391) (by decide +kernel) rfl ⟨rfl, by decide, rfl⟩ rfl (Nat.le_of_ble_eq_true rfl) h0 hc hM (K x σ' hF)
theorem k_862 {C : rCx} {d : Nat} {r : dM} {pc : Nat} {L : List (Option Value)} {st : List Value} {σ : rS} {Q : Option Value → rS → Prop} {x0 : Int32} {F : Int32 → rS → Prop} (hd : decode r.2.1 pc = .ok (.invokevirtual 862, 3)) (ho : r.2.2.2.2.2.1 = 16) (h0 : 10 ≤ d) (hc : (st.map fun v => v.category).sum ≤ 8) (h : cI C 10 m_go2 [.ref (co C), .int x0] σ F) (K : ∀ x σ', F x σ' → wG C (d + 1) r (pc + 3) L (.int x :: st) σ' Q) : wG C (d + 1) r pc L (.int x0 :: .ref (co C) :: st) σ Q := by
  obtain ⟨x, σ', hM, hF⟩ := h
  exact s_call (As := [.int x0]) hd ho (j := 392) (by decide +kernel) rfl ⟨rfl, by decide, rfl⟩ rfl (Nat.le_of_ble_eq_true rfl) h0 hc hM (K x σ' hF)
theorem k_864 {C : rCx} {d : Nat} {r : dM} {pc : Nat} {L : List (Option Value)} {st : List Value} {σ : rS} {Q : Option Value → rS → Prop} {x0 : Int32} {F : Int32 → rS → Prop} (hd : decode r.2.1 pc = .ok (.invokevirtual 864, 3)) (ho : r.2.2.2.2.2.1 = 16) (h0 : 1 ≤ d) (hc : (st.map fun v => v.category).sum ≤ 8) (h : cI C 1 m_loadNext [.ref (co C), .int x0] σ F) (K : ∀ x σ', F x σ' → wG C (d + 1) r (pc + 3) L (.int x :: st) σ' Q) : wG C (d + 1) r pc L (.int x0 :: .ref (co C) :: st) σ Q := by
  obtain ⟨x, σ', hM, hF⟩ := h
  exact s_call (As := [.int x0]) hd ho (j := 397) (by decide +kernel) rfl ⟨rfl, by decide, rfl⟩ rfl (Nat.le_of_ble_eq_true rfl) h0 hc hM (K x σ' hF)
theorem k_867 {C : rCx} {d : Nat} {r : dM} {pc : Nat} {L : List (Option Value)} {st : List Value} {σ : rS} {Q : Option Value → rS → Prop} {x0 : Int32} {F : rS → Prop} (hd : decode r.2.1 pc = .ok (.invokevirtual 867, 3)) (ho : r.2.2.2.2.2.1 = 16) (h0 : 5 ≤ d) (hc : (st.map fun v => v.category).sum ≤ 8) (h : cV C 5 m_takeNext [.ref (co C), .int x0] σ F) (K : ∀ σ', F σ' → wG C (d + 1) r (pc + 3) L st σ' Q) : wG C (d + 1) r pc L (.int x0 :: .ref (co C) :: st) σ Q := by
  obtain ⟨σ', hM, hF⟩ := h
  exact s_call (As := [.int x0]) hd ho (j := 400) (by decide +kernel) rfl ⟨rfl, by decide, rfl⟩ rfl (Nat.le_of_ble_eq_true rfl) h0 hc hM (K σ' hF)
theorem k_870 {C : rCx} {d : Nat} {r : dM} {pc : Nat} {L : List (Option Value)} {st : List Value} {σ : rS} {Q : Option Value → rS → Prop} {x0 : Int32} {F : Int32 → rS → Prop} (hd : decode r.2.1 pc = .ok (.invokevirtual 870, 3)) (ho : r.2.2.2.2.2.1 = 16) (h0 : 2 ≤ d) (hc : (st.map fun v => v.category).sum ≤ 8) (h : cI C 2 m_isGreater [.ref (co C), .int x0] σ F) (K : ∀ x σ', F x σ' → wG C (d + 1) r (pc + 3) L (.int x :: st) σ' Q) : wG C (d + 1) r pc L (.int x0 :: .ref (co C) :: st) σ Q := by
  obtain ⟨x, σ', hM, hF⟩ := h
  exact s_call (As := [.int x0]) hd ho (j := 399) (by decide +kernel) rfl ⟨rfl, by decide, rfl⟩ rfl (Nat.le_of_ble_eq_true rfl) h0 hc hM (K x σ' hF)
theorem k_873 {C : rCx} {d : Nat} {r : dM} {pc : Nat} {L : List (Option Value)} {st : List Value} {σ : rS} {Q : Option Value → rS → Prop} {x0 : Int32} {F : Int32 → rS → Prop} (hd : decode r.2.1 pc = .ok (.invokevirtual 873, 3)) (ho : r.2.2.2.2.2.1 = 16) (h0 : 0 ≤ d) (hc : (st.map fun v => v.category).sum ≤ 8) (h : cI C 0 m_isWorthDone [.ref (co C), .int x0] σ F) (K : ∀ x σ', F x σ' → wG C (d + 1) r (pc + 3) L (.int x :: st) σ' Q) : wG C (d + 1) r pc L (.int x0 :: .ref (co C) :: st) σ Q := by
  obtain ⟨x, σ', hM, hF⟩ := h
  exact s_call (As := [.int x0]) hd ho (j := 398) (by decide +kernel) rfl ⟨rfl, by decide, rfl⟩ rfl (Nat.le_of_ble_eq_true rfl) h0 hc hM (K x σ' hF)
theorem k_876 {C : rCx} {d : Nat} {r : dM} {pc : Nat} {L : List (Option Value)} {st : List Value} {σ : rS} {Q : Option Value → rS → Prop} {x0 : Int32} {F : rS → Prop} (hd : decode r.2.1 pc = .ok (.invokevirtual 876, 3)) (ho : r.2.2.2.2.2.1 = 16) (h0 : 6 ≤ d) (hc : (st.map fun v => v.category).sum ≤ 8) (h : cV C 6 m_findWorth [.ref (co C), .int x0] σ F) (K : ∀ σ', F σ' → wG C (d + 1) r (pc + 3) L st σ' Q) : wG C (d + 1) r pc L (.int x0 :: .ref (co C) :: st) σ Q := by
  obtain ⟨σ', hM, hF⟩ := h
  exact s_call (As := [.int x0]) hd ho (j := 401) (by decide +kernel) rfl ⟨rfl, by decide, rfl⟩ rfl (Nat.le_of_ble_eq_true rfl) h0 hc hM (K σ' hF)
theorem k_879 {C : rCx} {d : Nat} {r : dM} {pc : Nat} {L : List (Option Value)} {st : List Value} {σ : rS} {Q : Option Value → rS → Prop} {x0 : Int32} {F : rS → Prop} (hd : decode r.2.1 pc = .ok (.invokevirtual 879, 3)) (ho : r.2.2.2.2.2.1 = 16) (h0 : 0 ≤ d) (hc : (st.map fun v => v.category).sum ≤ 8) (h : cV C 0 m_keepWorth [.ref (co C), .int x0] σ F) (K : ∀ σ', F σ' → wG C (d + 1) r (pc + 3) L st σ' Q) : wG C (d + 1) r pc L (.int x0 :: .ref (co C) :: st) σ Q := by
  obtain ⟨σ', hM, hF⟩ := h
  exact s_call (As := [.int x0]) hd ho (j := 396) (by decide +kernel) rfl ⟨rfl, by decide, rfl⟩ rfl (Nat.le_of_ble_eq_true rfl) h0 hc hM (K σ' hF)
theorem k_882 {C : rCx} {d : Nat} {r : dM} {pc : Nat} {L : List (Option Value)} {st : List Value} {σ : rS} {Q : Option Value → rS → Prop} {x0 : Int32} {x1 : Int32} {F : Int32 → rS → Prop} (hd : decode r.2.1 pc = .ok (.invokevirtual 882, 3)) (ho : r.2.2.2.2.2.1 = 16) (h0 : 0 ≤ d) (hc : (st.map fun v => v.category).sum ≤ 8) (h : cI C 0 m_told [.ref (co C), .int x0, .int x1] σ F) (K : ∀ x σ', F x σ' → wG C (d + 1) r (pc + 3) L (.int x :: st) σ' Q) : wG C (d + 1) r pc L (.int x1 :: .int x0 :: .ref (co C) :: st) σ Q := by
  obtain ⟨x, σ', hM, hF⟩ := h
  exact s_call (As := [.int x0, .int x1]) hd ho (j := 404) (by decide +kernel) rfl ⟨rfl, by decide, rfl⟩ rfl (Nat.le_of_ble_eq_true rfl) h0 hc hM (K x σ' hF)
theorem k_885 {C : rCx} {d : Nat} {r : dM} {pc : Nat} {L : List (Option Value)} {st : List Value} {σ : rS} {Q : Option Value → rS → Prop} {x0 : Int32} {x1 : Int32} {x2 : Int32} {x3 : Int32} {x4 : Int32} {x5 : Int32} {x6 : Int32} {F : rS → Prop} (hd : decode r.2.1 pc = .ok (.invokevirtual 885, 3)) (ho : r.2.2.2.2.2.1 = 16) (h0 : 6 ≤ d) (hc : (st.map fun v => v.category).sum ≤ 8) (h : cV C 6 m_weigh [.ref (co C), .int x0, .int x1, .int x2, .int x3, .int x4, .int x5, .int x6] σ F) (K : ∀ σ', F σ' → wG C (d + 1) r (pc + 3) L st σ' Q) : wG C (d + 1) r pc L (.int x6 :: .int x5 :: .int x4 :: .int x3 :: .int x2 :: .int x1 :: .int x0 :: .ref (co C) :: st) σ Q := by
  obtain ⟨σ', hM, hF⟩ := h
  exact s_call (As := [.int x0, .int x1, .int x2, .int x3, .int x4, .int x5, .int x6]) hd ho (j := 406) (by decide +kernel) rfl ⟨rfl, by decide, rfl⟩ rfl (Nat.le_of_ble_eq_true rfl) h0 hc hM (K σ' hF)
theorem k_889 {C : rCx} {d : Nat} {r : dM} {pc : Nat} {L : List (Option Value)} {st : List Value} {σ : rS} {Q : Option Value → rS → Prop} {x0 : Int32} {x1 : Int32} {x2 : Int32} {F : rS → Prop} (hd : decode r.2.1 pc = .ok (.invokevirtual 889, 3)) (ho : r.2.2.2.2.2.1 = 16) (h0 : 4 ≤ d) (hc : (st.map fun v => v.category).sum ≤ 8) (h : cV C 4 m_product [.ref (co C), .int x0, .int x1, .int x2] σ F) (K : ∀ σ', F σ' → wG C (d + 1) r (pc + 3) L st σ' Q) : wG C (d + 1) r pc L (.int x2 :: .int x1 :: .int x0 :: .ref (co C) :: st) σ Q := by
  obtain ⟨σ', hM, hF⟩ := h
  exact s_call (As := [.int x0, .int x1, .int x2]) hd ho (j := 407) (by decide +kernel) rfl ⟨rfl, by decide, rfl⟩ rfl (Nat.le_of_ble_eq_true rfl) h0 hc hM (K σ' hF)
theorem k_892 {C : rCx} {d : Nat} {r : dM} {pc : Nat} {L : List (Option Value)} {st : List Value} {σ : rS} {Q : Option Value → rS → Prop} {x0 : Nat} {x1 : Int32} {x2 : Int32} {x3 : Int32} {F : Int32 → rS → Prop} (hd : decode r.2.1 pc = .ok (.invokevirtual 892, 3)) (ho : r.2.2.2.2.2.1 = 16) (h0 : 1 ≤ d) (hc : (st.map fun v => v.category).sum ≤ 8) (h : cI C 1 m_list [.ref (co C), .ref (cad C x0), .int x1, .int x2, .int x3] σ F) (K : ∀ x σ', F x σ' → wG C (d + 1) r (pc + 3) L (.int x :: st) σ' Q) : wG C (d + 1) r pc L (.int x3 :: .int x2 :: .int x1 :: .ref (cad C x0) :: .ref (co C) :: st) σ Q := by
  obtain ⟨x, σ', hM, hF⟩ := h
  exact s_call (As := [.ref (cad C x0), .int x1, .int x2, .int x3]) hd ho (j := 405) (by decide +kernel) rfl ⟨rfl, by decide, rfl⟩ rfl (Nat.le_of_ble_eq_true rfl) h0 hc hM (K x σ' hF)
theorem k_902 {C : rCx} {d : Nat} {r : dM} {pc : Nat} {L : List (Option Value)} {st : List Value} {σ : rS} {Q : Option Value → rS → Prop} {x0 : Int32} {x1 : Int32} {x2 : Int32} {x3 : Int32} {x4 : Int32} {x5 : Int32} {F : Int32 → rS → Prop} (hd : decode r.2.1 pc = .ok (.invokevirtual 902, 3)) (ho : r.2.2.2.2.2.1 = 16) (h0 : 7 ≤ d) (hc : (st.map fun v => v.category).sum ≤ 8) (h : cI C 7 m_isPairFree [.ref (co C), .int x0, .int x1, .int x2, .int x3, .int x4, .int x5] σ F) (K : ∀ x σ', F x σ' → wG C (d + 1) r (pc + 3) L (.int x :: st) σ' Q) : wG C (d + 1) r pc L (.int x5 :: .int x4 :: .int x3 :: .int x2 :: .int x1 :: .int x0 :: .ref (co C) :: st) σ Q := by
  obtain ⟨x, σ', hM, hF⟩ := h
  exact s_call (As := [.int x0, .int x1, .int x2, .int x3, .int x4, .int x5]) hd ho (j := 408) (by decide +kernel) rfl ⟨rfl, by decide, rfl⟩ rfl (Nat.le_of_ble_eq_true rfl) h0 hc hM (K x σ' hF)
theorem k_906 {C : rCx} {d : Nat} {r : dM} {pc : Nat} {L : List (Option Value)} {st : List Value} {σ : rS} {Q : Option Value → rS → Prop} {x0 : Int32} {F : Int32 → rS → Prop} (hd : decode r.2.1 pc = .ok (.invokevirtual 906, 3)) (ho : r.2.2.2.2.2.1 = 16) (h0 : 1 ≤ d) (hc : (st.map fun v => v.category).sum ≤ 8) (h : cI C 1 m_isGlobal [.ref (co C), .int x0] σ F) (K : ∀ x σ', F x σ' → wG C (d + 1) r (pc + 3) L (.int x :: st) σ' Q) : wG C (d + 1) r pc L (.int x0 :: .ref (co C) :: st) σ Q := by
  obtain ⟨x, σ', hM, hF⟩ := h
  exact s_call (As := [.int x0]) hd ho (j := 410) (by decide +kernel) rfl ⟨rfl, by decide, rfl⟩ rfl (Nat.le_of_ble_eq_true rfl) h0 hc hM (K x σ' hF)
theorem k_909 {C : rCx} {d : Nat} {r : dM} {pc : Nat} {L : List (Option Value)} {st : List Value} {σ : rS} {Q : Option Value → rS → Prop}  {F : rS → Prop} (hd : decode r.2.1 pc = .ok (.invokevirtual 909, 3)) (ho : r.2.2.2.2.2.1 = 16) (h0 : 1 ≤ d) (hc : (st.map fun v => v.category).sum ≤ 8) (h : cV C 1 m_findHeavy [.ref (co C)] σ F) (K : ∀ σ', F σ' → wG C (d + 1) r (pc + 3) L st σ' Q) : wG C (d + 1) r pc L (.ref (co C) :: st) σ Q := by
  obtain ⟨σ', hM, hF⟩ := h
  exact s_call (As := []) hd ho (j := 403) (by decide +kernel) rfl ⟨rfl, by decide, rfl⟩ rfl (Nat.le_of_ble_eq_true rfl) h0 hc hM (K σ' hF)
theorem k_912 {C : rCx} {d : Nat} {r : dM} {pc : Nat} {L : List (Option Value)} {st : List Value} {σ : rS} {Q : Option Value → rS → Prop} {x0 : Int32} {x1 : Int32} {x2 : Int32} {x3 : Int32} {F : Int32 → rS → Prop} (hd : decode r.2.1 pc = .ok (.invokevirtual 912, 3)) (ho : r.2.2.2.2.2.1 = 16) (h0 : 8 ≤ d) (hc : (st.map fun v => v.category).sum ≤ 8) (h : cI C 8 m_isFree [.ref (co C), .int x0, .int x1, .int x2, .int x3] σ F) (K : ∀ x σ', F x σ' → wG C (d + 1) r (pc + 3) L (.int x :: st) σ' Q) : wG C (d + 1) r pc L (.int x3 :: .int x2 :: .int x1 :: .int x0 :: .ref (co C) :: st) σ Q := by
  obtain ⟨x, σ', hM, hF⟩ := h
  exact s_call (As := [.int x0, .int x1, .int x2, .int x3]) hd ho (j := 409) (by decide +kernel) rfl ⟨rfl, by decide, rfl⟩ rfl (Nat.le_of_ble_eq_true rfl) h0 hc hM (K x σ' hF)
theorem sw_at {pc t k : Nat} {lo : dL0} {st : List Value} {dflt low hi v off : Int} {offs : Array Int} {x : Int32} {len nL : Nat} (hx : x.toInt = v) (hv : (¬ (v < low ∨ hi < v)) = True) (hk : offs[(v - low).toNat]? = some off) (ht : dto pc off = some t) : dpure (.tableswitch dflt low hi offs) len pc nL lo (.int x :: st) = some (t, lo, st) := by
  show dsw pc lo st dflt low hi offs x = _
  unfold dsw
  rw [hx, if_neg (of_eq_true hv), hk]
  dsimp only
  rw [ht]; rfl
