abbrev cX13_thrown : ByteArray := prog_15_method_1_code
def yX13_thrown : MethodName := ⟨RX13, "thrown", "()I"⟩
abbrev cX13_within : ByteArray := prog_15_method_3_code
def yX13_within : MethodName := ⟨RX13, "within", "(III)Z"⟩
abbrev cX13_end : ByteArray := prog_15_method_5_code
def yX13_end : MethodName := ⟨RX13, "end", "(I)V"⟩
abbrev cX13_isRight : ByteArray := prog_15_method_18_code
def yX13_isRight : MethodName := ⟨RX13, "isRight", "()Z"⟩
abbrev cX13_flaw : ByteArray := prog_15_method_19_code
def yX13_flaw : MethodName := ⟨RX13, "flaw", "(II)V"⟩
abbrev cX13_go : ByteArray := prog_15_method_20_code
def yX13_go : MethodName := ⟨RX13, "go", "()V"⟩
abbrev cX13_readNext : ByteArray := prog_15_method_21_code
def yX13_readNext : MethodName := ⟨RX13, "readNext", "()V"⟩
abbrev cX13_isAt : ByteArray := prog_15_method_22_code
def yX13_isAt : MethodName := ⟨RX13, "isAt", "(I)Z"⟩
abbrev cX13_isWord : ByteArray := prog_15_method_24_code
def yX13_isWord : MethodName := ⟨RX13, "isWord", "(I)Z"⟩
abbrev cX13_sign : ByteArray := prog_15_method_25_code
def yX13_sign : MethodName := ⟨RX13, "sign", "(I)V"⟩
abbrev cX13_open : ByteArray := prog_15_method_26_code
def yX13_open : MethodName := ⟨RX13, "open", "(I)V"⟩
abbrev cX13_close : ByteArray := prog_15_method_27_code
def yX13_close : MethodName := ⟨RX13, "close", "(I)V"⟩
abbrev cX13_isSame : ByteArray := prog_15_method_29_code
def yX13_isSame : MethodName := ⟨RX13, "isSame", "(II)Z"⟩
abbrev cX13_variableOf : ByteArray := prog_15_method_31_code
def yX13_variableOf : MethodName := ⟨RX13, "variableOf", "(I)I"⟩
abbrev cX13_arrayOf : ByteArray := prog_15_method_32_code
def yX13_arrayOf : MethodName := ⟨RX13, "arrayOf", "(I)I"⟩
abbrev cX13_look : ByteArray := prog_15_method_44_code
def yX13_look : MethodName := ⟨RX13, "look", "(II)V"⟩
abbrev cX13_rank : ByteArray := prog_15_method_48_code
def yX13_rank : MethodName := ⟨RX13, "rank", "(I)I"⟩
abbrev cX13_top : ByteArray := prog_15_method_49_code
def yX13_top : MethodName := ⟨RX13, "top", "()I"⟩
abbrev cX13_hold : ByteArray := prog_15_method_50_code
def yX13_hold : MethodName := ⟨RX13, "hold", "(II)V"⟩
abbrev cX13_goesOn : ByteArray := prog_15_method_51_code
def yX13_goesOn : MethodName := ⟨RX13, "goesOn", "()Z"⟩
abbrev cX13_truth : ByteArray := prog_15_method_52_code
def yX13_truth : MethodName := ⟨RX13, "truth", "(Z)I"⟩
abbrev cX13_compared : ByteArray := prog_15_method_53_code
def yX13_compared : MethodName := ⟨RX13, "compared", "(III)I"⟩
abbrev cX13_apply : ByteArray := prog_15_method_54_code
def yX13_apply : MethodName := ⟨RX13, "apply", "()V"⟩
abbrev cX13_settle : ByteArray := prog_15_method_55_code
def yX13_settle : MethodName := ⟨RX13, "settle", "(I)V"⟩
abbrev cX13_turn : ByteArray := prog_15_method_56_code
def yX13_turn : MethodName := ⟨RX13, "turn", "()V"⟩
abbrev cX13_push : ByteArray := prog_15_method_57_code
def yX13_push : MethodName := ⟨RX13, "push", "(I)V"⟩
abbrev cX13_operand : ByteArray := prog_15_method_58_code
def yX13_operand : MethodName := ⟨RX13, "operand", "()Z"⟩
abbrev cX13_named : ByteArray := prog_15_method_59_code
def yX13_named : MethodName := ⟨RX13, "named", "()Z"⟩
abbrev cX13_behind : ByteArray := prog_15_method_60_code
def yX13_behind : MethodName := ⟨RX13, "behind", "()I"⟩
abbrev cX13_expression : ByteArray := prog_15_method_61_code
def yX13_expression : MethodName := ⟨RX13, "expression", "()I"⟩
abbrev cX13_fault : ByteArray := prog_15_method_69_code
def yX13_fault : MethodName := ⟨RX13, "fault", "()I"⟩
abbrev cX13_valueOf : ByteArray := prog_15_method_70_code
def yX13_valueOf : MethodName := ⟨RX13, "valueOf", "(I)I"⟩
abbrev cX13_cellOf : ByteArray := prog_15_method_71_code
def yX13_cellOf : MethodName := ⟨RX13, "cellOf", "(II)I"⟩
abbrev cX13_store : ByteArray := prog_15_method_72_code
def yX13_store : MethodName := ⟨RX13, "store", "(II)V"⟩
abbrev cX13_leave : ByteArray := prog_15_method_73_code
def yX13_leave : MethodName := ⟨RX13, "leave", "(I)I"⟩
abbrev cX13_moveTo : ByteArray := prog_15_method_74_code
def yX13_moveTo : MethodName := ⟨RX13, "moveTo", "(I)I"⟩
abbrev cX13_begin : ByteArray := prog_15_method_75_code
def yX13_begin : MethodName := ⟨RX13, "begin", "()I"⟩
abbrev cX13_fail : ByteArray := prog_15_method_76_code
def yX13_fail : MethodName := ⟨RX13, "fail", "(I)I"⟩
abbrev cX13_workAt : ByteArray := prog_15_method_77_code
def yX13_workAt : MethodName := ⟨RX13, "workAt", "(I)I"⟩
abbrev cX13_findPlace : ByteArray := prog_15_method_78_code
def yX13_findPlace : MethodName := ⟨RX13, "findPlace", "(I)V"⟩
abbrev cX13_call : ByteArray := prog_15_method_79_code
def yX13_call : MethodName := ⟨RX13, "call", "(I)I"⟩
abbrev cX13_outcome : ByteArray := prog_15_method_80_code
def yX13_outcome : MethodName := ⟨RX13, "outcome", "(II)V"⟩
abbrev cX13_draw : ByteArray := prog_15_method_81_code
def yX13_draw : MethodName := ⟨RX13, "draw", "(I)I"⟩
abbrev cX13_choose : ByteArray := prog_15_method_82_code
def yX13_choose : MethodName := ⟨RX13, "choose", "(I)I"⟩
abbrev cX13_act : ByteArray := prog_15_method_83_code
def yX13_act : MethodName := ⟨RX13, "act", "()I"⟩
abbrev cX13_get : ByteArray := prog_15_method_84_code
def yX13_get : MethodName := ⟨RX13, "get", "(I)I"⟩
abbrev cX13_pack : ByteArray := prog_15_method_85_code
def yX13_pack : MethodName := ⟨RX13, "pack", "()I"⟩
abbrev cX13_unpack : ByteArray := prog_15_method_86_code
def yX13_unpack : MethodName := ⟨RX13, "unpack", "(I)V"⟩
abbrev cX13_isKey : ByteArray := prog_15_method_87_code
def yX13_isKey : MethodName := ⟨RX13, "isKey", "(I)Z"⟩
abbrev cX13_stateNow : ByteArray := prog_15_method_88_code
def yX13_stateNow : MethodName := ⟨RX13, "stateNow", "()I"⟩
abbrev cX13_stateNumber : ByteArray := prog_15_method_89_code
def yX13_stateNumber : MethodName := ⟨RX13, "stateNumber", "()I"⟩
abbrev cX13_endingNumber : ByteArray := prog_15_method_90_code
def yX13_endingNumber : MethodName := ⟨RX13, "endingNumber", "()I"⟩
abbrev cX13_addNext : ByteArray := prog_15_method_91_code
def yX13_addNext : MethodName := ⟨RX13, "addNext", "(IIZI)Z"⟩
abbrev cX13_expand : ByteArray := prog_15_method_92_code
def yX13_expand : MethodName := ⟨RX13, "expand", "(I)Z"⟩
abbrev cX13_explore : ByteArray := prog_15_method_93_code
def yX13_explore : MethodName := ⟨RX13, "explore", "(I)I"⟩
abbrev cX13_leads : ByteArray := prog_15_method_94_code
def yX13_leads : MethodName := ⟨RX13, "leads", "(II)Z"⟩
abbrev cX13_isTaken : ByteArray := prog_15_method_95_code
def yX13_isTaken : MethodName := ⟨RX13, "isTaken", "(IIZ)Z"⟩
abbrev cX13_findReach : ByteArray := prog_15_method_96_code
def yX13_findReach : MethodName := ⟨RX13, "findReach", "(Z[ZZ)V"⟩
abbrev cX13_isRingWith : ByteArray := prog_15_method_97_code
def yX13_isRingWith : MethodName := ⟨RX13, "isRingWith", "(II)Z"⟩
abbrev cX13_endsAtOnce : ByteArray := prog_15_method_98_code
def yX13_endsAtOnce : MethodName := ⟨RX13, "endsAtOnce", "(IZ)Z"⟩
abbrev cX13_canEnd : ByteArray := prog_15_method_99_code
def yX13_canEnd : MethodName := ⟨RX13, "canEnd", "(IZ)Z"⟩
abbrev cX13_ringOf : ByteArray := prog_15_method_100_code
def yX13_ringOf : MethodName := ⟨RX13, "ringOf", "(I)I"⟩
abbrev cX13_findRings : ByteArray := prog_15_method_101_code
def yX13_findRings : MethodName := ⟨RX13, "findRings", "()V"⟩
abbrev cX13_count : ByteArray := prog_15_method_102_code
def yX13_count : MethodName := ⟨RX13, "count", "(I)I"⟩
abbrev cX13_isState : ByteArray := prog_15_method_103_code
def yX13_isState : MethodName := ⟨RX13, "isState", "(I)Z"⟩
abbrev cX13_latestAt : ByteArray := prog_15_method_104_code
def yX13_latestAt : MethodName := ⟨RX13, "latestAt", "(I)I"⟩
abbrev cX13_state : ByteArray := prog_15_method_105_code
def yX13_state : MethodName := ⟨RX13, "state", "(II)I"⟩
abbrev cX13_value : ByteArray := prog_15_method_106_code
def yX13_value : MethodName := ⟨RX13, "value", "(III)I"⟩
abbrev cX13_next : ByteArray := prog_15_method_107_code
def yX13_next : MethodName := ⟨RX13, "next", "(III)I"⟩
abbrev cX13_ending : ByteArray := prog_15_method_108_code
def yX13_ending : MethodName := ⟨RX13, "ending", "(II)I"⟩
abbrev cX13_decide : ByteArray := prog_15_method_109_code
def yX13_decide : MethodName := ⟨RX13, "decide", "(II)I"⟩
abbrev cX13_decided : ByteArray := prog_15_method_110_code
def yX13_decided : MethodName := ⟨RX13, "decided", "(I)I"⟩
abbrev cX13_set : ByteArray := prog_15_method_111_code
def yX13_set : MethodName := ⟨RX13, "set", "(IJ)V"⟩
abbrev cX13_trim : ByteArray := prog_15_method_112_code
def yX13_trim : MethodName := ⟨RX13, "trim", "(I)V"⟩
abbrev cX13_copy : ByteArray := prog_15_method_113_code
def yX13_copy : MethodName := ⟨RX13, "copy", "(II)V"⟩
abbrev cX13_compare : ByteArray := prog_15_method_114_code
def yX13_compare : MethodName := ⟨RX13, "compare", "(II)I"⟩
abbrev cX13_plus : ByteArray := prog_15_method_115_code
def yX13_plus : MethodName := ⟨RX13, "plus", "(II)V"⟩
abbrev cX13_minus : ByteArray := prog_15_method_116_code
def yX13_minus : MethodName := ⟨RX13, "minus", "(II)V"⟩
abbrev cX13_times : ByteArray := prog_15_method_117_code
def yX13_times : MethodName := ⟨RX13, "times", "(III)V"⟩
abbrev cX13_shiftUp : ByteArray := prog_15_method_118_code
def yX13_shiftUp : MethodName := ⟨RX13, "shiftUp", "(II)V"⟩
abbrev cX13_shiftDown : ByteArray := prog_15_method_119_code
def yX13_shiftDown : MethodName := ⟨RX13, "shiftDown", "(II)V"⟩
abbrev cX13_oneDigit : ByteArray := prog_15_method_120_code
def yX13_oneDigit : MethodName := ⟨RX13, "oneDigit", "(III)I"⟩
abbrev cX13_divide : ByteArray := prog_15_method_121_code
def yX13_divide : MethodName := ⟨RX13, "divide", "(III)V"⟩
abbrev cX13_isZero : ByteArray := prog_15_method_122_code
def yX13_isZero : MethodName := ⟨RX13, "isZero", "(I)Z"⟩
abbrev cX13_reduce : ByteArray := prog_15_method_123_code
def yX13_reduce : MethodName := ⟨RX13, "reduce", "(II)V"⟩
abbrev cX13_clearSum : ByteArray := prog_15_method_124_code
def yX13_clearSum : MethodName := ⟨RX13, "clearSum", "()V"⟩
abbrev cX13_add : ByteArray := prog_15_method_125_code
def yX13_add : MethodName := ⟨RX13, "add", "(I)V"⟩
abbrev cX13_scale : ByteArray := prog_15_method_126_code
def yX13_scale : MethodName := ⟨RX13, "scale", "(JJ)V"⟩
abbrev cX13_keepIn : ByteArray := prog_15_method_127_code
def yX13_keepIn : MethodName := ⟨RX13, "keepIn", "(III)V"⟩
abbrev cX13_load : ByteArray := prog_15_method_128_code
def yX13_load : MethodName := ⟨RX13, "load", "(III)V"⟩
abbrev cX13_addProduct : ByteArray := prog_15_method_129_code
def yX13_addProduct : MethodName := ⟨RX13, "addProduct", "(IIII)V"⟩
abbrev cX13_isLong : ByteArray := prog_15_method_130_code
def yX13_isLong : MethodName := ⟨RX13, "isLong", "(I)Z"⟩
abbrev cX13_keepVisits : ByteArray := prog_15_method_131_code
def yX13_keepVisits : MethodName := ⟨RX13, "keepVisits", "(I)V"⟩
abbrev cX13_loadVisits : ByteArray := prog_15_method_132_code
def yX13_loadVisits : MethodName := ⟨RX13, "loadVisits", "(I)V"⟩
abbrev cX13_weightOf : ByteArray := prog_15_method_133_code
def yX13_weightOf : MethodName := ⟨RX13, "weightOf", "(II)J"⟩
abbrev cX13_totalOf : ByteArray := prog_15_method_134_code
def yX13_totalOf : MethodName := ⟨RX13, "totalOf", "(I)J"⟩
abbrev cX13_sumInflow : ByteArray := prog_15_method_135_code
def yX13_sumInflow : MethodName := ⟨RX13, "sumInflow", "(II)V"⟩
abbrev cX13_takeTimes : ByteArray := prog_15_method_136_code
def yX13_takeTimes : MethodName := ⟨RX13, "takeTimes", "(I)V"⟩
abbrev cX13_keepSmall : ByteArray := prog_15_method_137_code
def yX13_keepSmall : MethodName := ⟨RX13, "keepSmall", "(IJJ)V"⟩
abbrev cX13_layRing : ByteArray := prog_15_method_138_code
def yX13_layRing : MethodName := ⟨RX13, "layRing", "()V"⟩
abbrev cX13_foldRing : ByteArray := prog_15_method_139_code
def yX13_foldRing : MethodName := ⟨RX13, "foldRing", "()V"⟩
abbrev cX13_visitFrom : ByteArray := prog_15_method_140_code
def yX13_visitFrom : MethodName := ⟨RX13, "visitFrom", "(I)V"⟩
abbrev cX13_solveRing : ByteArray := prog_15_method_141_code
def yX13_solveRing : MethodName := ⟨RX13, "solveRing", "()Z"⟩
abbrev cX13_findOrder : ByteArray := prog_15_method_142_code
def yX13_findOrder : MethodName := ⟨RX13, "findOrder", "()V"⟩
abbrev cX13_solve : ByteArray := prog_15_method_143_code
def yX13_solve : MethodName := ⟨RX13, "solve", "()I"⟩
abbrev cX13_isSlot : ByteArray := prog_15_method_144_code
def yX13_isSlot : MethodName := ⟨RX13, "isSlot", "(II)Z"⟩
abbrev cX13_isMeant : ByteArray := prog_15_method_145_code
def yX13_isMeant : MethodName := ⟨RX13, "isMeant", "(III)Z"⟩
abbrev cX13_isVisited : ByteArray := prog_15_method_146_code
def yX13_isVisited : MethodName := ⟨RX13, "isVisited", "(I)Z"⟩
abbrev cX13_sumWeights : ByteArray := prog_15_method_147_code
def yX13_sumWeights : MethodName := ⟨RX13, "sumWeights", "(IIZ)V"⟩
abbrev cX13_addWeight : ByteArray := prog_15_method_148_code
def yX13_addWeight : MethodName := ⟨RX13, "addWeight", "(IIJ)V"⟩
abbrev cX13_sumVisits : ByteArray := prog_15_method_149_code
def yX13_sumVisits : MethodName := ⟨RX13, "sumVisits", "(Z)V"⟩
abbrev cX13_sumOver : ByteArray := prog_15_method_150_code
def yX13_sumOver : MethodName := ⟨RX13, "sumOver", "(IIZI)V"⟩
abbrev cX13_show : ByteArray := prog_15_method_151_code
def yX13_show : MethodName := ⟨RX13, "show", "(II)I"⟩
abbrev cX13_tell : ByteArray := prog_15_method_155_code
def yX13_tell : MethodName := ⟨RX13, "tell", "(I)I"⟩
abbrev cX13_forget : ByteArray := prog_15_method_156_code
def yX13_forget : MethodName := ⟨RX13, "forget", "()I"⟩
abbrev cX13_drawn : ByteArray := prog_15_method_157_code
def yX13_drawn : MethodName := ⟨RX13, "drawn", "()I"⟩
abbrev cX13_draws : ByteArray := prog_15_method_158_code
def yX13_draws : MethodName := ⟨RX13, "draws", "()I"⟩
abbrev cX13_chooses : ByteArray := prog_15_method_159_code
def yX13_chooses : MethodName := ⟨RX13, "chooses", "()I"⟩
abbrev cX13_go_ : ByteArray := prog_15_method_160_code
def yX13_go_ : MethodName := ⟨RX13, "go", "(I)I"⟩
abbrev cX13_play : ByteArray := prog_15_method_161_code
def yX13_play : MethodName := ⟨RX13, "play", "(JI)I"⟩
abbrev cX13_walk : ByteArray := prog_15_method_162_code
def yX13_walk : MethodName := ⟨RX13, "walk", "(I)I"⟩
abbrev cX13_played : ByteArray := prog_15_method_163_code
def yX13_played : MethodName := ⟨RX13, "played", "(I)J"⟩
abbrev cX13_loadWorth : ByteArray := prog_15_method_164_code
def yX13_loadWorth : MethodName := ⟨RX13, "loadWorth", "([II)V"⟩
abbrev cX13_keepWorth : ByteArray := prog_15_method_165_code
def yX13_keepWorth : MethodName := ⟨RX13, "keepWorth", "(I)V"⟩
abbrev cX13_loadNext : ByteArray := prog_15_method_166_code
def yX13_loadNext : MethodName := ⟨RX13, "loadNext", "(I)I"⟩
abbrev cX13_isWorthDone : ByteArray := prog_15_method_167_code
def yX13_isWorthDone : MethodName := ⟨RX13, "isWorthDone", "(I)Z"⟩
abbrev cX13_isGreater : ByteArray := prog_15_method_168_code
def yX13_isGreater : MethodName := ⟨RX13, "isGreater", "(I)Z"⟩
abbrev cX13_takeNext : ByteArray := prog_15_method_169_code
def yX13_takeNext : MethodName := ⟨RX13, "takeNext", "(I)V"⟩
abbrev cX13_findWorth : ByteArray := prog_15_method_170_code
def yX13_findWorth : MethodName := ⟨RX13, "findWorth", "(I)V"⟩
abbrev cX13_best : ByteArray := prog_15_method_171_code
def yX13_best : MethodName := ⟨RX13, "best", "()I"⟩
abbrev cX13_findHeavy : ByteArray := prog_15_method_172_code
def yX13_findHeavy : MethodName := ⟨RX13, "findHeavy", "()V"⟩
abbrev cX13_told : ByteArray := prog_15_method_173_code
def yX13_told : MethodName := ⟨RX13, "told", "(II)I"⟩
abbrev cX13_list : ByteArray := prog_15_method_174_code
def yX13_list : MethodName := ⟨RX13, "list", "([IIII)I"⟩
abbrev cX13_weigh : ByteArray := prog_15_method_175_code
def yX13_weigh : MethodName := ⟨RX13, "weigh", "(IIIIIII)V"⟩
abbrev cX13_product : ByteArray := prog_15_method_176_code
def yX13_product : MethodName := ⟨RX13, "product", "(III)V"⟩
abbrev cX13_isPairFree : ByteArray := prog_15_method_177_code
def yX13_isPairFree : MethodName := ⟨RX13, "isPairFree", "(IIIIII)Z"⟩
abbrev cX13_isFree : ByteArray := prog_15_method_178_code
def yX13_isFree : MethodName := ⟨RX13, "isFree", "(IIII)Z"⟩
abbrev cX13_isGlobal : ByteArray := prog_15_method_179_code
def yX13_isGlobal : MethodName := ⟨RX13, "isGlobal", "(I)Z"⟩
abbrev cX13_independent : ByteArray := prog_15_method_180_code
def yX13_independent : MethodName := ⟨RX13, "independent", "(II)Z"⟩
abbrev cX13_given : ByteArray := prog_15_method_181_code
def yX13_given : MethodName := ⟨RX13, "given", "(III)Z"⟩
def wsX13_thrown : List Cond := .code yX13_thrown cX13_thrown 1 (some .int) :: ([.fieldLink RX13 1 "ChanceWorksModel" "code" "I"] ++ wsX130)
def wsX13_within : List Cond := .code yX13_within cX13_within 3 (some .boolean) :: ([])
def wsX13_end : List Cond := .code yX13_end cX13_end 2 none :: ([.fieldLink RX13 253 "ChanceWorksModel" "size" "I", .fieldLink RX13 1 "ChanceWorksModel" "code" "I"] ++ wsX130)
def wsX13_fault : List Cond := .code yX13_fault cX13_fault 1 (some .int) :: ([.fieldLink RX13 1 "ChanceWorksModel" "code" "I", .fieldLink RX13 526 "ChanceWorksModel" "lastFault" "I"] ++ wsX130)
def wsX13_begin_r1 : List Cond := [Cond.fieldLink RX13 122 "ChanceWorksModel" "globals" "[I", Cond.fieldLink RX13 333 "ChanceWorksModel" "vars" "I", Cond.fieldLink RX13 39 "ChanceWorksModel" "varValues" "[I", Cond.fieldLink RX13 551 "ChanceWorksModel" "calls" "I", Cond.fieldLink RX13 128 "ChanceWorksModel" "callVars" "[I", Cond.fieldLink RX13 63 "ChanceWorksModel" "firstOf" "[I", Cond.fieldLink RX13 487 "ChanceWorksModel" "main" "I", Cond.methodLink RX13 563 yX13_moveTo, Cond.instanceMethod yX13_moveTo, Cond.selects RX13 yX13_moveTo yX13_moveTo, Cond.initialized RX13, Cond.code yX13_moveTo cX13_moveTo 2 (some .int), Cond.fieldLink RX13 125 "ChanceWorksModel" "ats" "[I", Cond.methodLink RX13 560 yX13_leave, Cond.instanceMethod yX13_leave, Cond.selects RX13 yX13_leave yX13_leave, Cond.code yX13_leave cX13_leave 4 (some .int), Cond.fieldLink RX13 554 "ChanceWorksModel" "ended" "I", Cond.fieldLink RX13 69 "ChanceWorksModel" "begins" "[I", Cond.fieldLink RX13 72 "ChanceWorksModel" "expressions" "[I", Cond.fieldLink RX13 93 "ChanceWorksModel" "refs" "[I", Cond.fieldLink RX13 87 "ChanceWorksModel" "follows" "[I", Cond.methodLink RX13 557 yX13_store, Cond.instanceMethod yX13_store]
def wsX13_begin_r2 : List Cond := [Cond.selects RX13 yX13_store yX13_store, Cond.code yX13_store cX13_store 3 none]
def wsX13_begin : List Cond := .code yX13_begin cX13_begin 2 (some .int) :: ((wsX13_begin_r1 ++ wsX13_begin_r2) ++ wsX130 ++ (vx_atM "java/lang/ArrayIndexOutOfBoundsException" ["java/lang/IndexOutOfBoundsException", "java/lang/RuntimeException", "java/lang/Exception"]).filter goodWord)
def wsX13_act_r1 : List Cond := [Cond.fieldLink RX13 125 "ChanceWorksModel" "ats" "[I", Cond.fieldLink RX13 551 "ChanceWorksModel" "calls" "I", Cond.fieldLink RX13 300 "ChanceWorksModel" "fault" "I", Cond.fieldLink RX13 322 "ChanceWorksModel" "openCount" "I", Cond.fieldLink RX13 428 "ChanceWorksModel" "failure" "I", Cond.fieldLink RX13 438 "ChanceWorksModel" "mode" "I", Cond.fieldLink RX13 585 "ChanceWorksModel" "gained" "I", Cond.fieldLink RX13 66 "ChanceWorksModel" "kinds" "[I", Cond.fieldLink RX13 72 "ChanceWorksModel" "expressions" "[I", Cond.fieldLink RX13 75 "ChanceWorksModel" "bodies" "[I", Cond.fieldLink RX13 87 "ChanceWorksModel" "follows" "[I", Cond.fieldLink RX13 78 "ChanceWorksModel" "elses" "[I", Cond.fieldLink RX13 566 "ChanceWorksModel" "place" "I", Cond.methodLink RX13 588 yX13_call, Cond.instanceMethod yX13_call, Cond.selects RX13 yX13_call yX13_call, Cond.initialized RX13, Cond.code yX13_call cX13_call 5 (some .int), Cond.fieldLink RX13 93 "ChanceWorksModel" "refs" "[I", Cond.fieldLink RX13 306 "ChanceWorksModel" "at" "I", Cond.fieldLink RX13 54 "ChanceWorksModel" "givens" "[I", Cond.fieldLink RX13 137 "ChanceWorksModel" "given" "[I", Cond.fieldLink RX13 128 "ChanceWorksModel" "callVars" "[I", Cond.fieldLink RX13 63 "ChanceWorksModel" "firstOf" "[I"]
def wsX13_act_r2 : List Cond := [Cond.methodLink RX13 403 yX13_expression, Cond.instanceMethod yX13_expression, Cond.selects RX13 yX13_expression yX13_expression, Cond.code yX13_expression cX13_expression 2 (some .int), Cond.fieldLink RX13 425 "ChanceWorksModel" "waiting" "I", Cond.fieldLink RX13 435 "ChanceWorksModel" "values" "I", Cond.fieldLink RX13 113 "ChanceWorksModel" "piles" "[I", Cond.methodLink RX13 448 yX13_goesOn, Cond.instanceMethod yX13_goesOn, Cond.selects RX13 yX13_goesOn yX13_goesOn, Cond.code yX13_goesOn cX13_goesOn 1 (some .boolean), Cond.methodLink RX13 325 yX13_isRight, Cond.instanceMethod yX13_isRight, Cond.selects RX13 yX13_isRight yX13_isRight, Cond.code yX13_isRight cX13_isRight 1 (some .boolean), Cond.methodLink RX13 478 yX13_operand, Cond.instanceMethod yX13_operand, Cond.selects RX13 yX13_operand yX13_operand, Cond.code yX13_operand cX13_operand 2 (some .boolean), Cond.fieldLink RX13 19 "ChanceWorksModel" "sorts" "[B", Cond.fieldLink RX13 26 "ChanceWorksModel" "numbers" "[I", Cond.methodLink RX13 316 yX13_isAt, Cond.instanceMethod yX13_isAt, Cond.selects RX13 yX13_isAt yX13_isAt]
def wsX13_act_r3 : List Cond := [Cond.code yX13_isAt cX13_isAt 2 (some .boolean), Cond.methodLink RX13 460 yX13_hold, Cond.instanceMethod yX13_hold, Cond.selects RX13 yX13_hold yX13_hold, Cond.code yX13_hold cX13_hold 3 none, Cond.fieldLink RX13 107 "ChanceWorksModel" "waits" "[I", Cond.fieldLink RX13 110 "ChanceWorksModel" "waitRefs" "[I", Cond.methodLink RX13 319 yX13_go, Cond.instanceMethod yX13_go, Cond.selects RX13 yX13_go yX13_go, Cond.code yX13_go cX13_go 1 none, Cond.methodLink RX13 309 yX13_readNext, Cond.instanceMethod yX13_readNext, Cond.selects RX13 yX13_readNext yX13_readNext, Cond.code yX13_readNext cX13_readNext 1 none, Cond.methodLink RX13 312 yX13_flaw, Cond.instanceMethod yX13_flaw, Cond.selects RX13 yX13_flaw yX13_flaw, Cond.code yX13_flaw cX13_flaw 3 none, Cond.fieldLink RX13 22 "ChanceWorksModel" "places" "[I", Cond.fieldLink RX13 303 "ChanceWorksModel" "faultPlace" "I", Cond.methodLink RX13 359 yX13_open, Cond.instanceMethod yX13_open, Cond.selects RX13 yX13_open yX13_open]
def wsX13_act_r4 : List Cond := [Cond.code yX13_open cX13_open 2 none, Cond.methodLink RX13 463 yX13_push, Cond.instanceMethod yX13_push, Cond.selects RX13 yX13_push yX13_push, Cond.code yX13_push cX13_push 2 none, Cond.methodLink RX13 457 yX13_turn, Cond.instanceMethod yX13_turn, Cond.selects RX13 yX13_turn yX13_turn, Cond.code yX13_turn cX13_turn 2 none, Cond.methodLink RX13 451 yX13_top, Cond.instanceMethod yX13_top, Cond.selects RX13 yX13_top yX13_top, Cond.code yX13_top cX13_top 1 (some .int), Cond.methodLink RX13 431 yX13_truth, Cond.static yX13_truth, Cond.code yX13_truth cX13_truth 1 (some .int), Cond.methodLink RX13 466 yX13_named, Cond.instanceMethod yX13_named, Cond.selects RX13 yX13_named yX13_named, Cond.code yX13_named cX13_named 3 (some .boolean), Cond.methodLink RX13 410 yX13_arrayOf, Cond.instanceMethod yX13_arrayOf, Cond.selects RX13 yX13_arrayOf yX13_arrayOf, Cond.code yX13_arrayOf cX13_arrayOf 3 (some .int)]
def wsX13_act_r5 : List Cond := [Cond.fieldLink RX13 340 "ChanceWorksModel" "arrs" "I", Cond.fieldLink RX13 42 "ChanceWorksModel" "arrTokens" "[I", Cond.methodLink RX13 336 yX13_isSame, Cond.instanceMethod yX13_isSame, Cond.selects RX13 yX13_isSame yX13_isSame, Cond.code yX13_isSame cX13_isSame 3 (some .boolean), Cond.fieldLink RX13 29 "ChanceWorksModel" "firsts" "[J", Cond.fieldLink RX13 33 "ChanceWorksModel" "seconds" "[I", Cond.methodLink RX13 413 yX13_variableOf, Cond.instanceMethod yX13_variableOf, Cond.selects RX13 yX13_variableOf yX13_variableOf, Cond.code yX13_variableOf cX13_variableOf 3 (some .int), Cond.fieldLink RX13 57 "ChanceWorksModel" "variables" "[I", Cond.fieldLink RX13 346 "ChanceWorksModel" "function" "I", Cond.fieldLink RX13 60 "ChanceWorksModel" "variableTokens" "[I", Cond.fieldLink RX13 333 "ChanceWorksModel" "vars" "I", Cond.fieldLink RX13 36 "ChanceWorksModel" "varTokens" "[I", Cond.methodLink RX13 416 yX13_look, Cond.instanceMethod yX13_look, Cond.selects RX13 yX13_look yX13_look, Cond.code yX13_look cX13_look 3 none, Cond.methodLink RX13 469 yX13_valueOf, Cond.instanceMethod yX13_valueOf, Cond.selects RX13 yX13_valueOf yX13_valueOf]
def wsX13_act_r6 : List Cond := [Cond.code yX13_valueOf cX13_valueOf 2 (some .int), Cond.fieldLink RX13 122 "ChanceWorksModel" "globals" "[I", Cond.methodLink RX13 481 yX13_behind, Cond.instanceMethod yX13_behind, Cond.selects RX13 yX13_behind yX13_behind, Cond.code yX13_behind cX13_behind 4 (some .int), Cond.methodLink RX13 441 yX13_rank, Cond.static yX13_rank, Cond.code yX13_rank cX13_rank 1 (some .int), Cond.methodLink RX13 472 yX13_settle, Cond.instanceMethod yX13_settle, Cond.selects RX13 yX13_settle yX13_settle, Cond.code yX13_settle cX13_settle 2 none, Cond.methodLink RX13 454 yX13_apply, Cond.instanceMethod yX13_apply, Cond.selects RX13 yX13_apply yX13_apply, Cond.code yX13_apply cX13_apply 5 none, Cond.methodLink RX13 444 yX13_compared, Cond.static yX13_compared, Cond.code yX13_compared cX13_compared 3 (some .int), Cond.methodLink RX13 366 yX13_close, Cond.instanceMethod yX13_close, Cond.selects RX13 yX13_close yX13_close, Cond.code yX13_close cX13_close 2 none]
def wsX13_act_r7 : List Cond := [Cond.methodLink RX13 329 yX13_sign, Cond.instanceMethod yX13_sign, Cond.selects RX13 yX13_sign yX13_sign, Cond.code yX13_sign cX13_sign 2 none, Cond.methodLink RX13 475 yX13_cellOf, Cond.instanceMethod yX13_cellOf, Cond.selects RX13 yX13_cellOf yX13_cellOf, Cond.code yX13_cellOf cX13_cellOf 4 (some .int), Cond.fieldLink RX13 45 "ChanceWorksModel" "arrSizes" "[I", Cond.fieldLink RX13 48 "ChanceWorksModel" "arrFirsts" "[I", Cond.methodLink RX13 572 yX13_fail, Cond.instanceMethod yX13_fail, Cond.selects RX13 yX13_fail yX13_fail, Cond.code yX13_fail cX13_fail 2 (some .int), Cond.fieldLink RX13 554 "ChanceWorksModel" "ended" "I", Cond.methodLink RX13 563 yX13_moveTo, Cond.instanceMethod yX13_moveTo, Cond.selects RX13 yX13_moveTo yX13_moveTo, Cond.code yX13_moveTo cX13_moveTo 2 (some .int), Cond.methodLink RX13 560 yX13_leave, Cond.instanceMethod yX13_leave, Cond.selects RX13 yX13_leave yX13_leave, Cond.code yX13_leave cX13_leave 4 (some .int), Cond.fieldLink RX13 69 "ChanceWorksModel" "begins" "[I"]
def wsX13_act_r8 : List Cond := [Cond.methodLink RX13 557 yX13_store, Cond.instanceMethod yX13_store, Cond.selects RX13 yX13_store yX13_store, Cond.code yX13_store cX13_store 3 none, Cond.methodLink RX13 591 yX13_findPlace, Cond.instanceMethod yX13_findPlace, Cond.selects RX13 yX13_findPlace yX13_findPlace, Cond.code yX13_findPlace cX13_findPlace 4 none, Cond.methodLink RX13 569 yX13_workAt, Cond.instanceMethod yX13_workAt, Cond.selects RX13 yX13_workAt yX13_workAt, Cond.code yX13_workAt cX13_workAt 2 (some .int), Cond.methodLink RX13 594 yX13_draw, Cond.instanceMethod yX13_draw, Cond.selects RX13 yX13_draw yX13_draw, Cond.code yX13_draw cX13_draw 7 (some .int), Cond.fieldLink RX13 575 "ChanceWorksModel" "outcomes" "I", Cond.fieldLink RX13 581 "ChanceWorksModel" "outTotal" "I", Cond.fieldLink RX13 134 "ChanceWorksModel" "outWeights" "[I", Cond.constant RX13 584 (1000000), Cond.methodLink RX13 391 yX13_isWord, Cond.instanceMethod yX13_isWord, Cond.selects RX13 yX13_isWord yX13_isWord, Cond.code yX13_isWord cX13_isWord 2 (some .boolean)]
def wsX13_act_r9 : List Cond := [Cond.methodLink RX13 578 yX13_outcome, Cond.instanceMethod yX13_outcome, Cond.selects RX13 yX13_outcome yX13_outcome, Cond.code yX13_outcome cX13_outcome 3 none, Cond.fieldLink RX13 131 "ChanceWorksModel" "outValues" "[I", Cond.methodLink RX13 362 yX13_within, Cond.static yX13_within, Cond.code yX13_within cX13_within 3 (some .boolean), Cond.methodLink RX13 597 yX13_choose, Cond.instanceMethod yX13_choose, Cond.selects RX13 yX13_choose yX13_choose, Cond.code yX13_choose cX13_choose 4 (some .int)]
def wsX13_act : List Cond := .code yX13_act cX13_act 4 (some .int) :: ((wsX13_act_r1 ++ (wsX13_act_r2 ++ (wsX13_act_r3 ++ (wsX13_act_r4 ++ (wsX13_act_r5 ++ (wsX13_act_r6 ++ (wsX13_act_r7 ++ (wsX13_act_r8 ++ wsX13_act_r9)))))))) ++ wsX130 ++ (vx_atM "java/lang/ArrayIndexOutOfBoundsException" ["java/lang/IndexOutOfBoundsException", "java/lang/RuntimeException", "java/lang/Exception"]).filter goodWord)
def wsX13_stateNumber : List Cond := .code yX13_stateNumber cX13_stateNumber 3 (some .int) :: ([.fieldLink RX13 542 "ChanceWorksModel" "states" "I", .fieldLink RX13 609 "ChanceWorksModel" "most" "I", .fieldLink RX13 144 "ChanceWorksModel" "hashes" "[I", .fieldLink RX13 141 "ChanceWorksModel" "stateRows" "[I", .fieldLink RX13 175 "ChanceWorksModel" "key" "[I", .methodLink RX13 606 yX13_stateNow, .instanceMethod yX13_stateNow, .selects RX13 yX13_stateNow yX13_stateNow, .initialized RX13, .code yX13_stateNow cX13_stateNow 3 (some .int), .methodLink RX13 600 yX13_pack, .instanceMethod yX13_pack, .selects RX13 yX13_pack yX13_pack, .code yX13_pack cX13_pack 3 (some .int), .fieldLink RX13 551 "ChanceWorksModel" "calls" "I", .fieldLink RX13 122 "ChanceWorksModel" "globals" "[I", .fieldLink RX13 125 "ChanceWorksModel" "ats" "[I", .fieldLink RX13 128 "ChanceWorksModel" "callVars" "[I", .methodLink RX13 603 yX13_isKey, .instanceMethod yX13_isKey, .selects RX13 yX13_isKey yX13_isKey, .code yX13_isKey cX13_isKey 4 (some .boolean)] ++ wsX130 ++ (vx_atM "java/lang/ArrayIndexOutOfBoundsException" ["java/lang/IndexOutOfBoundsException", "java/lang/RuntimeException", "java/lang/Exception"]).filter goodWord)
def wsX13_endingNumber : List Cond := .code yX13_endingNumber cX13_endingNumber 4 (some .int) :: ([.fieldLink RX13 545 "ChanceWorksModel" "endings" "I", .fieldLink RX13 148 "ChanceWorksModel" "endingRows" "[I", .fieldLink RX13 554 "ChanceWorksModel" "ended" "I", .fieldLink RX13 122 "ChanceWorksModel" "globals" "[I"] ++ wsX130 ++ (vx_atM "java/lang/ArrayIndexOutOfBoundsException" ["java/lang/IndexOutOfBoundsException", "java/lang/RuntimeException", "java/lang/Exception"]).filter goodWord)
def wsX13_expand_r1 : List Cond := [Cond.fieldLink RX13 548 "ChanceWorksModel" "nextCount" "I", Cond.fieldLink RX13 151 "ChanceWorksModel" "nextStarts" "[I", Cond.fieldLink RX13 166 "ChanceWorksModel" "isChoice" "[Z", Cond.fieldLink RX13 169 "ChanceWorksModel" "gains" "[I", Cond.fieldLink RX13 585 "ChanceWorksModel" "gained" "I", Cond.fieldLink RX13 163 "ChanceWorksModel" "totals" "[I", Cond.fieldLink RX13 581 "ChanceWorksModel" "outTotal" "I", Cond.fieldLink RX13 575 "ChanceWorksModel" "outcomes" "I", Cond.fieldLink RX13 134 "ChanceWorksModel" "outWeights" "[I", Cond.methodLink RX13 618 yX13_unpack, Cond.instanceMethod yX13_unpack, Cond.selects RX13 yX13_unpack yX13_unpack, Cond.initialized RX13, Cond.code yX13_unpack cX13_unpack 5 none, Cond.fieldLink RX13 141 "ChanceWorksModel" "stateRows" "[I", Cond.fieldLink RX13 551 "ChanceWorksModel" "calls" "I", Cond.fieldLink RX13 122 "ChanceWorksModel" "globals" "[I", Cond.fieldLink RX13 125 "ChanceWorksModel" "ats" "[I", Cond.fieldLink RX13 128 "ChanceWorksModel" "callVars" "[I", Cond.methodLink RX13 621 yX13_act, Cond.instanceMethod yX13_act, Cond.selects RX13 yX13_act yX13_act, Cond.code yX13_act cX13_act 4 (some .int), Cond.fieldLink RX13 300 "ChanceWorksModel" "fault" "I"]
def wsX13_expand_r2 : List Cond := [Cond.fieldLink RX13 322 "ChanceWorksModel" "openCount" "I", Cond.fieldLink RX13 428 "ChanceWorksModel" "failure" "I", Cond.fieldLink RX13 438 "ChanceWorksModel" "mode" "I", Cond.fieldLink RX13 66 "ChanceWorksModel" "kinds" "[I", Cond.fieldLink RX13 72 "ChanceWorksModel" "expressions" "[I", Cond.fieldLink RX13 75 "ChanceWorksModel" "bodies" "[I", Cond.fieldLink RX13 87 "ChanceWorksModel" "follows" "[I", Cond.fieldLink RX13 78 "ChanceWorksModel" "elses" "[I", Cond.fieldLink RX13 566 "ChanceWorksModel" "place" "I", Cond.methodLink RX13 588 yX13_call, Cond.instanceMethod yX13_call, Cond.selects RX13 yX13_call yX13_call, Cond.code yX13_call cX13_call 5 (some .int), Cond.fieldLink RX13 93 "ChanceWorksModel" "refs" "[I", Cond.fieldLink RX13 306 "ChanceWorksModel" "at" "I", Cond.fieldLink RX13 54 "ChanceWorksModel" "givens" "[I", Cond.fieldLink RX13 137 "ChanceWorksModel" "given" "[I", Cond.fieldLink RX13 63 "ChanceWorksModel" "firstOf" "[I", Cond.methodLink RX13 403 yX13_expression, Cond.instanceMethod yX13_expression, Cond.selects RX13 yX13_expression yX13_expression, Cond.code yX13_expression cX13_expression 2 (some .int), Cond.fieldLink RX13 425 "ChanceWorksModel" "waiting" "I", Cond.fieldLink RX13 435 "ChanceWorksModel" "values" "I"]
def wsX13_expand_r3 : List Cond := [Cond.fieldLink RX13 113 "ChanceWorksModel" "piles" "[I", Cond.methodLink RX13 448 yX13_goesOn, Cond.instanceMethod yX13_goesOn, Cond.selects RX13 yX13_goesOn yX13_goesOn, Cond.code yX13_goesOn cX13_goesOn 1 (some .boolean), Cond.methodLink RX13 325 yX13_isRight, Cond.instanceMethod yX13_isRight, Cond.selects RX13 yX13_isRight yX13_isRight, Cond.code yX13_isRight cX13_isRight 1 (some .boolean), Cond.methodLink RX13 478 yX13_operand, Cond.instanceMethod yX13_operand, Cond.selects RX13 yX13_operand yX13_operand, Cond.code yX13_operand cX13_operand 2 (some .boolean), Cond.fieldLink RX13 19 "ChanceWorksModel" "sorts" "[B", Cond.fieldLink RX13 26 "ChanceWorksModel" "numbers" "[I", Cond.methodLink RX13 316 yX13_isAt, Cond.instanceMethod yX13_isAt, Cond.selects RX13 yX13_isAt yX13_isAt, Cond.code yX13_isAt cX13_isAt 2 (some .boolean), Cond.methodLink RX13 460 yX13_hold, Cond.instanceMethod yX13_hold, Cond.selects RX13 yX13_hold yX13_hold, Cond.code yX13_hold cX13_hold 3 none, Cond.fieldLink RX13 107 "ChanceWorksModel" "waits" "[I"]
def wsX13_expand_r4 : List Cond := [Cond.fieldLink RX13 110 "ChanceWorksModel" "waitRefs" "[I", Cond.methodLink RX13 319 yX13_go, Cond.instanceMethod yX13_go, Cond.selects RX13 yX13_go yX13_go, Cond.code yX13_go cX13_go 1 none, Cond.methodLink RX13 309 yX13_readNext, Cond.instanceMethod yX13_readNext, Cond.selects RX13 yX13_readNext yX13_readNext, Cond.code yX13_readNext cX13_readNext 1 none, Cond.methodLink RX13 312 yX13_flaw, Cond.instanceMethod yX13_flaw, Cond.selects RX13 yX13_flaw yX13_flaw, Cond.code yX13_flaw cX13_flaw 3 none, Cond.fieldLink RX13 22 "ChanceWorksModel" "places" "[I", Cond.fieldLink RX13 303 "ChanceWorksModel" "faultPlace" "I", Cond.methodLink RX13 359 yX13_open, Cond.instanceMethod yX13_open, Cond.selects RX13 yX13_open yX13_open, Cond.code yX13_open cX13_open 2 none, Cond.methodLink RX13 463 yX13_push, Cond.instanceMethod yX13_push, Cond.selects RX13 yX13_push yX13_push, Cond.code yX13_push cX13_push 2 none, Cond.methodLink RX13 457 yX13_turn]
def wsX13_expand_r5 : List Cond := [Cond.instanceMethod yX13_turn, Cond.selects RX13 yX13_turn yX13_turn, Cond.code yX13_turn cX13_turn 2 none, Cond.methodLink RX13 451 yX13_top, Cond.instanceMethod yX13_top, Cond.selects RX13 yX13_top yX13_top, Cond.code yX13_top cX13_top 1 (some .int), Cond.methodLink RX13 431 yX13_truth, Cond.static yX13_truth, Cond.code yX13_truth cX13_truth 1 (some .int), Cond.methodLink RX13 466 yX13_named, Cond.instanceMethod yX13_named, Cond.selects RX13 yX13_named yX13_named, Cond.code yX13_named cX13_named 3 (some .boolean), Cond.methodLink RX13 410 yX13_arrayOf, Cond.instanceMethod yX13_arrayOf, Cond.selects RX13 yX13_arrayOf yX13_arrayOf, Cond.code yX13_arrayOf cX13_arrayOf 3 (some .int), Cond.fieldLink RX13 340 "ChanceWorksModel" "arrs" "I", Cond.fieldLink RX13 42 "ChanceWorksModel" "arrTokens" "[I", Cond.methodLink RX13 336 yX13_isSame, Cond.instanceMethod yX13_isSame, Cond.selects RX13 yX13_isSame yX13_isSame, Cond.code yX13_isSame cX13_isSame 3 (some .boolean)]
def wsX13_expand_r6 : List Cond := [Cond.fieldLink RX13 29 "ChanceWorksModel" "firsts" "[J", Cond.fieldLink RX13 33 "ChanceWorksModel" "seconds" "[I", Cond.methodLink RX13 413 yX13_variableOf, Cond.instanceMethod yX13_variableOf, Cond.selects RX13 yX13_variableOf yX13_variableOf, Cond.code yX13_variableOf cX13_variableOf 3 (some .int), Cond.fieldLink RX13 57 "ChanceWorksModel" "variables" "[I", Cond.fieldLink RX13 346 "ChanceWorksModel" "function" "I", Cond.fieldLink RX13 60 "ChanceWorksModel" "variableTokens" "[I", Cond.fieldLink RX13 333 "ChanceWorksModel" "vars" "I", Cond.fieldLink RX13 36 "ChanceWorksModel" "varTokens" "[I", Cond.methodLink RX13 416 yX13_look, Cond.instanceMethod yX13_look, Cond.selects RX13 yX13_look yX13_look, Cond.code yX13_look cX13_look 3 none, Cond.methodLink RX13 469 yX13_valueOf, Cond.instanceMethod yX13_valueOf, Cond.selects RX13 yX13_valueOf yX13_valueOf, Cond.code yX13_valueOf cX13_valueOf 2 (some .int), Cond.methodLink RX13 481 yX13_behind, Cond.instanceMethod yX13_behind, Cond.selects RX13 yX13_behind yX13_behind, Cond.code yX13_behind cX13_behind 4 (some .int), Cond.methodLink RX13 441 yX13_rank]
def wsX13_expand_r7 : List Cond := [Cond.static yX13_rank, Cond.code yX13_rank cX13_rank 1 (some .int), Cond.methodLink RX13 472 yX13_settle, Cond.instanceMethod yX13_settle, Cond.selects RX13 yX13_settle yX13_settle, Cond.code yX13_settle cX13_settle 2 none, Cond.methodLink RX13 454 yX13_apply, Cond.instanceMethod yX13_apply, Cond.selects RX13 yX13_apply yX13_apply, Cond.code yX13_apply cX13_apply 5 none, Cond.methodLink RX13 444 yX13_compared, Cond.static yX13_compared, Cond.code yX13_compared cX13_compared 3 (some .int), Cond.methodLink RX13 366 yX13_close, Cond.instanceMethod yX13_close, Cond.selects RX13 yX13_close yX13_close, Cond.code yX13_close cX13_close 2 none, Cond.methodLink RX13 329 yX13_sign, Cond.instanceMethod yX13_sign, Cond.selects RX13 yX13_sign yX13_sign, Cond.code yX13_sign cX13_sign 2 none, Cond.methodLink RX13 475 yX13_cellOf, Cond.instanceMethod yX13_cellOf, Cond.selects RX13 yX13_cellOf yX13_cellOf]
def wsX13_expand_r8 : List Cond := [Cond.code yX13_cellOf cX13_cellOf 4 (some .int), Cond.fieldLink RX13 45 "ChanceWorksModel" "arrSizes" "[I", Cond.fieldLink RX13 48 "ChanceWorksModel" "arrFirsts" "[I", Cond.methodLink RX13 572 yX13_fail, Cond.instanceMethod yX13_fail, Cond.selects RX13 yX13_fail yX13_fail, Cond.code yX13_fail cX13_fail 2 (some .int), Cond.fieldLink RX13 554 "ChanceWorksModel" "ended" "I", Cond.methodLink RX13 563 yX13_moveTo, Cond.instanceMethod yX13_moveTo, Cond.selects RX13 yX13_moveTo yX13_moveTo, Cond.code yX13_moveTo cX13_moveTo 2 (some .int), Cond.methodLink RX13 560 yX13_leave, Cond.instanceMethod yX13_leave, Cond.selects RX13 yX13_leave yX13_leave, Cond.code yX13_leave cX13_leave 4 (some .int), Cond.fieldLink RX13 69 "ChanceWorksModel" "begins" "[I", Cond.methodLink RX13 557 yX13_store, Cond.instanceMethod yX13_store, Cond.selects RX13 yX13_store yX13_store, Cond.code yX13_store cX13_store 3 none, Cond.methodLink RX13 591 yX13_findPlace, Cond.instanceMethod yX13_findPlace, Cond.selects RX13 yX13_findPlace yX13_findPlace]
def wsX13_expand_r9 : List Cond := [Cond.code yX13_findPlace cX13_findPlace 4 none, Cond.methodLink RX13 569 yX13_workAt, Cond.instanceMethod yX13_workAt, Cond.selects RX13 yX13_workAt yX13_workAt, Cond.code yX13_workAt cX13_workAt 2 (some .int), Cond.methodLink RX13 594 yX13_draw, Cond.instanceMethod yX13_draw, Cond.selects RX13 yX13_draw yX13_draw, Cond.code yX13_draw cX13_draw 7 (some .int), Cond.constant RX13 584 (1000000), Cond.methodLink RX13 391 yX13_isWord, Cond.instanceMethod yX13_isWord, Cond.selects RX13 yX13_isWord yX13_isWord, Cond.code yX13_isWord cX13_isWord 2 (some .boolean), Cond.methodLink RX13 578 yX13_outcome, Cond.instanceMethod yX13_outcome, Cond.selects RX13 yX13_outcome yX13_outcome, Cond.code yX13_outcome cX13_outcome 3 none, Cond.fieldLink RX13 131 "ChanceWorksModel" "outValues" "[I", Cond.methodLink RX13 362 yX13_within, Cond.static yX13_within, Cond.code yX13_within cX13_within 3 (some .boolean), Cond.methodLink RX13 597 yX13_choose, Cond.instanceMethod yX13_choose]
def wsX13_expand_r10 : List Cond := [Cond.selects RX13 yX13_choose yX13_choose, Cond.code yX13_choose cX13_choose 4 (some .int), Cond.methodLink RX13 624 yX13_addNext, Cond.instanceMethod yX13_addNext, Cond.selects RX13 yX13_addNext yX13_addNext, Cond.code yX13_addNext cX13_addNext 7 (some .boolean), Cond.fieldLink RX13 154 "ChanceWorksModel" "nextKinds" "[I", Cond.fieldLink RX13 157 "ChanceWorksModel" "nextNumbers" "[I", Cond.fieldLink RX13 160 "ChanceWorksModel" "nextWeights" "[I", Cond.methodLink RX13 612 yX13_stateNumber, Cond.instanceMethod yX13_stateNumber, Cond.selects RX13 yX13_stateNumber yX13_stateNumber, Cond.code yX13_stateNumber cX13_stateNumber 3 (some .int), Cond.fieldLink RX13 542 "ChanceWorksModel" "states" "I", Cond.fieldLink RX13 609 "ChanceWorksModel" "most" "I", Cond.fieldLink RX13 144 "ChanceWorksModel" "hashes" "[I", Cond.fieldLink RX13 175 "ChanceWorksModel" "key" "[I", Cond.methodLink RX13 606 yX13_stateNow, Cond.instanceMethod yX13_stateNow, Cond.selects RX13 yX13_stateNow yX13_stateNow, Cond.code yX13_stateNow cX13_stateNow 3 (some .int), Cond.methodLink RX13 600 yX13_pack, Cond.instanceMethod yX13_pack, Cond.selects RX13 yX13_pack yX13_pack]
def wsX13_expand_r11 : List Cond := [Cond.code yX13_pack cX13_pack 3 (some .int), Cond.methodLink RX13 603 yX13_isKey, Cond.instanceMethod yX13_isKey, Cond.selects RX13 yX13_isKey yX13_isKey, Cond.code yX13_isKey cX13_isKey 4 (some .boolean), Cond.methodLink RX13 615 yX13_endingNumber, Cond.instanceMethod yX13_endingNumber, Cond.selects RX13 yX13_endingNumber yX13_endingNumber, Cond.code yX13_endingNumber cX13_endingNumber 4 (some .int), Cond.fieldLink RX13 545 "ChanceWorksModel" "endings" "I", Cond.fieldLink RX13 148 "ChanceWorksModel" "endingRows" "[I", Cond.methodLink RX13 628 yX13_get, Cond.instanceMethod yX13_get, Cond.selects RX13 yX13_get yX13_get, Cond.code yX13_get cX13_get 2 (some .int)]
def wsX13_expand : List Cond := .code yX13_expand cX13_expand 6 (some .boolean) :: ((wsX13_expand_r1 ++ (wsX13_expand_r2 ++ (wsX13_expand_r3 ++ (wsX13_expand_r4 ++ (wsX13_expand_r5 ++ (wsX13_expand_r6 ++ (wsX13_expand_r7 ++ (wsX13_expand_r8 ++ (wsX13_expand_r9 ++ (wsX13_expand_r10 ++ wsX13_expand_r11)))))))))) ++ wsX130 ++ (vx_atM "java/lang/ArrayIndexOutOfBoundsException" ["java/lang/IndexOutOfBoundsException", "java/lang/RuntimeException", "java/lang/Exception"]).filter goodWord)
def wsX13_leads : List Cond := .code yX13_leads cX13_leads 3 (some .boolean) :: ([.fieldLink RX13 178 "ChanceWorksModel" "reach" "[J"] ++ wsX130 ++ (vx_atM "java/lang/ArrayIndexOutOfBoundsException" ["java/lang/IndexOutOfBoundsException", "java/lang/RuntimeException", "java/lang/Exception"]).filter goodWord)
def wsX13_isRingWith : List Cond := .code yX13_isRingWith cX13_isRingWith 3 (some .boolean) :: ([.methodLink RX13 644 yX13_leads, .instanceMethod yX13_leads, .selects RX13 yX13_leads yX13_leads, .initialized RX13, .code yX13_leads cX13_leads 3 (some .boolean), .fieldLink RX13 178 "ChanceWorksModel" "reach" "[J"] ++ wsX130 ++ (vx_atM "java/lang/ArrayIndexOutOfBoundsException" ["java/lang/IndexOutOfBoundsException", "java/lang/RuntimeException", "java/lang/Exception"]).filter goodWord)
def wsX13_ringOf : List Cond := .code yX13_ringOf cX13_ringOf 4 (some .int) :: ([.fieldLink RX13 542 "ChanceWorksModel" "states" "I", .methodLink RX13 644 yX13_leads, .instanceMethod yX13_leads, .selects RX13 yX13_leads yX13_leads, .initialized RX13, .code yX13_leads cX13_leads 3 (some .boolean), .fieldLink RX13 178 "ChanceWorksModel" "reach" "[J", .methodLink RX13 651 yX13_isRingWith, .instanceMethod yX13_isRingWith, .selects RX13 yX13_isRingWith yX13_isRingWith, .code yX13_isRingWith cX13_isRingWith 3 (some .boolean)] ++ wsX130 ++ (vx_atM "java/lang/ArrayIndexOutOfBoundsException" ["java/lang/IndexOutOfBoundsException", "java/lang/RuntimeException", "java/lang/Exception"]).filter goodWord)
def wsX13_findRings_r1 : List Cond := [Cond.fieldLink RX13 181 "ChanceWorksModel" "isHopeless" "[Z", Cond.fieldLink RX13 658 "ChanceWorksModel" "rings" "I", Cond.fieldLink RX13 661 "ChanceWorksModel" "greatestRing" "I", Cond.fieldLink RX13 542 "ChanceWorksModel" "states" "I", Cond.methodLink RX13 654 yX13_findReach, Cond.instanceMethod yX13_findReach, Cond.selects RX13 yX13_findReach yX13_findReach, Cond.initialized RX13, Cond.code yX13_findReach cX13_findReach 7 none, Cond.fieldLink RX13 178 "ChanceWorksModel" "reach" "[J", Cond.fieldLink RX13 151 "ChanceWorksModel" "nextStarts" "[I", Cond.fieldLink RX13 157 "ChanceWorksModel" "nextNumbers" "[I", Cond.fieldLink RX13 154 "ChanceWorksModel" "nextKinds" "[I", Cond.methodLink RX13 640 yX13_isTaken, Cond.instanceMethod yX13_isTaken, Cond.selects RX13 yX13_isTaken yX13_isTaken, Cond.code yX13_isTaken cX13_isTaken 4 (some .boolean), Cond.fieldLink RX13 166 "ChanceWorksModel" "isChoice" "[Z", Cond.fieldLink RX13 172 "ChanceWorksModel" "plan" "[I", Cond.methodLink RX13 644 yX13_leads, Cond.instanceMethod yX13_leads, Cond.selects RX13 yX13_leads yX13_leads, Cond.code yX13_leads cX13_leads 3 (some .boolean), Cond.methodLink RX13 664 yX13_canEnd]
def wsX13_findRings_r2 : List Cond := [Cond.instanceMethod yX13_canEnd, Cond.selects RX13 yX13_canEnd yX13_canEnd, Cond.code yX13_canEnd cX13_canEnd 5 (some .boolean), Cond.methodLink RX13 647 yX13_endsAtOnce, Cond.instanceMethod yX13_endsAtOnce, Cond.selects RX13 yX13_endsAtOnce yX13_endsAtOnce, Cond.code yX13_endsAtOnce cX13_endsAtOnce 5 (some .boolean), Cond.methodLink RX13 667 yX13_ringOf, Cond.instanceMethod yX13_ringOf, Cond.selects RX13 yX13_ringOf yX13_ringOf, Cond.code yX13_ringOf cX13_ringOf 4 (some .int), Cond.methodLink RX13 651 yX13_isRingWith, Cond.instanceMethod yX13_isRingWith, Cond.selects RX13 yX13_isRingWith yX13_isRingWith, Cond.code yX13_isRingWith cX13_isRingWith 3 (some .boolean)]
def wsX13_findRings : List Cond := .code yX13_findRings cX13_findRings 3 none :: ((wsX13_findRings_r1 ++ wsX13_findRings_r2) ++ wsX130 ++ (vx_atM "java/lang/ArrayIndexOutOfBoundsException" ["java/lang/IndexOutOfBoundsException", "java/lang/RuntimeException", "java/lang/Exception"]).filter goodWord)
def wsX13_explore_r1 : List Cond := [Cond.fieldLink RX13 529 "ChanceWorksModel" "stands" "Z", Cond.fieldLink RX13 1 "ChanceWorksModel" "code" "I", Cond.fieldLink RX13 609 "ChanceWorksModel" "most" "I", Cond.fieldLink RX13 542 "ChanceWorksModel" "states" "I", Cond.fieldLink RX13 545 "ChanceWorksModel" "endings" "I", Cond.fieldLink RX13 548 "ChanceWorksModel" "nextCount" "I", Cond.fieldLink RX13 536 "ChanceWorksModel" "isSolved" "Z", Cond.fieldLink RX13 539 "ChanceWorksModel" "isBest" "Z", Cond.fieldLink RX13 533 "ChanceWorksModel" "isExplored" "Z", Cond.fieldLink RX13 172 "ChanceWorksModel" "plan" "[I", Cond.methodLink RX13 362 yX13_within, Cond.static yX13_within, Cond.initialized RX13, Cond.code yX13_within cX13_within 3 (some .boolean), Cond.methodLink RX13 631 yX13_begin, Cond.instanceMethod yX13_begin, Cond.selects RX13 yX13_begin yX13_begin, Cond.code yX13_begin cX13_begin 2 (some .int), Cond.fieldLink RX13 122 "ChanceWorksModel" "globals" "[I", Cond.fieldLink RX13 333 "ChanceWorksModel" "vars" "I", Cond.fieldLink RX13 39 "ChanceWorksModel" "varValues" "[I", Cond.fieldLink RX13 551 "ChanceWorksModel" "calls" "I", Cond.fieldLink RX13 128 "ChanceWorksModel" "callVars" "[I", Cond.fieldLink RX13 63 "ChanceWorksModel" "firstOf" "[I"]
def wsX13_explore_r2 : List Cond := [Cond.fieldLink RX13 487 "ChanceWorksModel" "main" "I", Cond.methodLink RX13 563 yX13_moveTo, Cond.instanceMethod yX13_moveTo, Cond.selects RX13 yX13_moveTo yX13_moveTo, Cond.code yX13_moveTo cX13_moveTo 2 (some .int), Cond.fieldLink RX13 125 "ChanceWorksModel" "ats" "[I", Cond.methodLink RX13 560 yX13_leave, Cond.instanceMethod yX13_leave, Cond.selects RX13 yX13_leave yX13_leave, Cond.code yX13_leave cX13_leave 4 (some .int), Cond.fieldLink RX13 554 "ChanceWorksModel" "ended" "I", Cond.fieldLink RX13 69 "ChanceWorksModel" "begins" "[I", Cond.fieldLink RX13 72 "ChanceWorksModel" "expressions" "[I", Cond.fieldLink RX13 93 "ChanceWorksModel" "refs" "[I", Cond.fieldLink RX13 87 "ChanceWorksModel" "follows" "[I", Cond.methodLink RX13 557 yX13_store, Cond.instanceMethod yX13_store, Cond.selects RX13 yX13_store yX13_store, Cond.code yX13_store cX13_store 3 none, Cond.methodLink RX13 612 yX13_stateNumber, Cond.instanceMethod yX13_stateNumber, Cond.selects RX13 yX13_stateNumber yX13_stateNumber, Cond.code yX13_stateNumber cX13_stateNumber 3 (some .int), Cond.fieldLink RX13 144 "ChanceWorksModel" "hashes" "[I"]
def wsX13_explore_r3 : List Cond := [Cond.fieldLink RX13 141 "ChanceWorksModel" "stateRows" "[I", Cond.fieldLink RX13 175 "ChanceWorksModel" "key" "[I", Cond.methodLink RX13 606 yX13_stateNow, Cond.instanceMethod yX13_stateNow, Cond.selects RX13 yX13_stateNow yX13_stateNow, Cond.code yX13_stateNow cX13_stateNow 3 (some .int), Cond.methodLink RX13 600 yX13_pack, Cond.instanceMethod yX13_pack, Cond.selects RX13 yX13_pack yX13_pack, Cond.code yX13_pack cX13_pack 3 (some .int), Cond.methodLink RX13 603 yX13_isKey, Cond.instanceMethod yX13_isKey, Cond.selects RX13 yX13_isKey yX13_isKey, Cond.code yX13_isKey cX13_isKey 4 (some .boolean), Cond.methodLink RX13 615 yX13_endingNumber, Cond.instanceMethod yX13_endingNumber, Cond.selects RX13 yX13_endingNumber yX13_endingNumber, Cond.code yX13_endingNumber cX13_endingNumber 4 (some .int), Cond.fieldLink RX13 148 "ChanceWorksModel" "endingRows" "[I", Cond.methodLink RX13 634 yX13_expand, Cond.instanceMethod yX13_expand, Cond.selects RX13 yX13_expand yX13_expand, Cond.code yX13_expand cX13_expand 6 (some .boolean), Cond.fieldLink RX13 151 "ChanceWorksModel" "nextStarts" "[I"]
def wsX13_explore_r4 : List Cond := [Cond.fieldLink RX13 166 "ChanceWorksModel" "isChoice" "[Z", Cond.fieldLink RX13 169 "ChanceWorksModel" "gains" "[I", Cond.fieldLink RX13 585 "ChanceWorksModel" "gained" "I", Cond.fieldLink RX13 163 "ChanceWorksModel" "totals" "[I", Cond.fieldLink RX13 581 "ChanceWorksModel" "outTotal" "I", Cond.fieldLink RX13 575 "ChanceWorksModel" "outcomes" "I", Cond.fieldLink RX13 134 "ChanceWorksModel" "outWeights" "[I", Cond.methodLink RX13 618 yX13_unpack, Cond.instanceMethod yX13_unpack, Cond.selects RX13 yX13_unpack yX13_unpack, Cond.code yX13_unpack cX13_unpack 5 none, Cond.methodLink RX13 621 yX13_act, Cond.instanceMethod yX13_act, Cond.selects RX13 yX13_act yX13_act, Cond.code yX13_act cX13_act 4 (some .int), Cond.fieldLink RX13 300 "ChanceWorksModel" "fault" "I", Cond.fieldLink RX13 322 "ChanceWorksModel" "openCount" "I", Cond.fieldLink RX13 428 "ChanceWorksModel" "failure" "I", Cond.fieldLink RX13 438 "ChanceWorksModel" "mode" "I", Cond.fieldLink RX13 66 "ChanceWorksModel" "kinds" "[I", Cond.fieldLink RX13 75 "ChanceWorksModel" "bodies" "[I", Cond.fieldLink RX13 78 "ChanceWorksModel" "elses" "[I", Cond.fieldLink RX13 566 "ChanceWorksModel" "place" "I", Cond.methodLink RX13 588 yX13_call]
def wsX13_explore_r5 : List Cond := [Cond.instanceMethod yX13_call, Cond.selects RX13 yX13_call yX13_call, Cond.code yX13_call cX13_call 5 (some .int), Cond.fieldLink RX13 306 "ChanceWorksModel" "at" "I", Cond.fieldLink RX13 54 "ChanceWorksModel" "givens" "[I", Cond.fieldLink RX13 137 "ChanceWorksModel" "given" "[I", Cond.methodLink RX13 403 yX13_expression, Cond.instanceMethod yX13_expression, Cond.selects RX13 yX13_expression yX13_expression, Cond.code yX13_expression cX13_expression 2 (some .int), Cond.fieldLink RX13 425 "ChanceWorksModel" "waiting" "I", Cond.fieldLink RX13 435 "ChanceWorksModel" "values" "I", Cond.fieldLink RX13 113 "ChanceWorksModel" "piles" "[I", Cond.methodLink RX13 448 yX13_goesOn, Cond.instanceMethod yX13_goesOn, Cond.selects RX13 yX13_goesOn yX13_goesOn, Cond.code yX13_goesOn cX13_goesOn 1 (some .boolean), Cond.methodLink RX13 325 yX13_isRight, Cond.instanceMethod yX13_isRight, Cond.selects RX13 yX13_isRight yX13_isRight, Cond.code yX13_isRight cX13_isRight 1 (some .boolean), Cond.methodLink RX13 478 yX13_operand, Cond.instanceMethod yX13_operand, Cond.selects RX13 yX13_operand yX13_operand]
def wsX13_explore_r6 : List Cond := [Cond.code yX13_operand cX13_operand 2 (some .boolean), Cond.fieldLink RX13 19 "ChanceWorksModel" "sorts" "[B", Cond.fieldLink RX13 26 "ChanceWorksModel" "numbers" "[I", Cond.methodLink RX13 316 yX13_isAt, Cond.instanceMethod yX13_isAt, Cond.selects RX13 yX13_isAt yX13_isAt, Cond.code yX13_isAt cX13_isAt 2 (some .boolean), Cond.methodLink RX13 460 yX13_hold, Cond.instanceMethod yX13_hold, Cond.selects RX13 yX13_hold yX13_hold, Cond.code yX13_hold cX13_hold 3 none, Cond.fieldLink RX13 107 "ChanceWorksModel" "waits" "[I", Cond.fieldLink RX13 110 "ChanceWorksModel" "waitRefs" "[I", Cond.methodLink RX13 319 yX13_go, Cond.instanceMethod yX13_go, Cond.selects RX13 yX13_go yX13_go, Cond.code yX13_go cX13_go 1 none, Cond.methodLink RX13 309 yX13_readNext, Cond.instanceMethod yX13_readNext, Cond.selects RX13 yX13_readNext yX13_readNext, Cond.code yX13_readNext cX13_readNext 1 none, Cond.methodLink RX13 312 yX13_flaw, Cond.instanceMethod yX13_flaw, Cond.selects RX13 yX13_flaw yX13_flaw]
def wsX13_explore_r7 : List Cond := [Cond.code yX13_flaw cX13_flaw 3 none, Cond.fieldLink RX13 22 "ChanceWorksModel" "places" "[I", Cond.fieldLink RX13 303 "ChanceWorksModel" "faultPlace" "I", Cond.methodLink RX13 359 yX13_open, Cond.instanceMethod yX13_open, Cond.selects RX13 yX13_open yX13_open, Cond.code yX13_open cX13_open 2 none, Cond.methodLink RX13 463 yX13_push, Cond.instanceMethod yX13_push, Cond.selects RX13 yX13_push yX13_push, Cond.code yX13_push cX13_push 2 none, Cond.methodLink RX13 457 yX13_turn, Cond.instanceMethod yX13_turn, Cond.selects RX13 yX13_turn yX13_turn, Cond.code yX13_turn cX13_turn 2 none, Cond.methodLink RX13 451 yX13_top, Cond.instanceMethod yX13_top, Cond.selects RX13 yX13_top yX13_top, Cond.code yX13_top cX13_top 1 (some .int), Cond.methodLink RX13 431 yX13_truth, Cond.static yX13_truth, Cond.code yX13_truth cX13_truth 1 (some .int), Cond.methodLink RX13 466 yX13_named, Cond.instanceMethod yX13_named]
def wsX13_explore_r8 : List Cond := [Cond.selects RX13 yX13_named yX13_named, Cond.code yX13_named cX13_named 3 (some .boolean), Cond.methodLink RX13 410 yX13_arrayOf, Cond.instanceMethod yX13_arrayOf, Cond.selects RX13 yX13_arrayOf yX13_arrayOf, Cond.code yX13_arrayOf cX13_arrayOf 3 (some .int), Cond.fieldLink RX13 340 "ChanceWorksModel" "arrs" "I", Cond.fieldLink RX13 42 "ChanceWorksModel" "arrTokens" "[I", Cond.methodLink RX13 336 yX13_isSame, Cond.instanceMethod yX13_isSame, Cond.selects RX13 yX13_isSame yX13_isSame, Cond.code yX13_isSame cX13_isSame 3 (some .boolean), Cond.fieldLink RX13 29 "ChanceWorksModel" "firsts" "[J", Cond.fieldLink RX13 33 "ChanceWorksModel" "seconds" "[I", Cond.methodLink RX13 413 yX13_variableOf, Cond.instanceMethod yX13_variableOf, Cond.selects RX13 yX13_variableOf yX13_variableOf, Cond.code yX13_variableOf cX13_variableOf 3 (some .int), Cond.fieldLink RX13 57 "ChanceWorksModel" "variables" "[I", Cond.fieldLink RX13 346 "ChanceWorksModel" "function" "I", Cond.fieldLink RX13 60 "ChanceWorksModel" "variableTokens" "[I", Cond.fieldLink RX13 36 "ChanceWorksModel" "varTokens" "[I", Cond.methodLink RX13 416 yX13_look, Cond.instanceMethod yX13_look]
def wsX13_explore_r9 : List Cond := [Cond.selects RX13 yX13_look yX13_look, Cond.code yX13_look cX13_look 3 none, Cond.methodLink RX13 469 yX13_valueOf, Cond.instanceMethod yX13_valueOf, Cond.selects RX13 yX13_valueOf yX13_valueOf, Cond.code yX13_valueOf cX13_valueOf 2 (some .int), Cond.methodLink RX13 481 yX13_behind, Cond.instanceMethod yX13_behind, Cond.selects RX13 yX13_behind yX13_behind, Cond.code yX13_behind cX13_behind 4 (some .int), Cond.methodLink RX13 441 yX13_rank, Cond.static yX13_rank, Cond.code yX13_rank cX13_rank 1 (some .int), Cond.methodLink RX13 472 yX13_settle, Cond.instanceMethod yX13_settle, Cond.selects RX13 yX13_settle yX13_settle, Cond.code yX13_settle cX13_settle 2 none, Cond.methodLink RX13 454 yX13_apply, Cond.instanceMethod yX13_apply, Cond.selects RX13 yX13_apply yX13_apply, Cond.code yX13_apply cX13_apply 5 none, Cond.methodLink RX13 444 yX13_compared, Cond.static yX13_compared, Cond.code yX13_compared cX13_compared 3 (some .int)]
def wsX13_explore_r10 : List Cond := [Cond.methodLink RX13 366 yX13_close, Cond.instanceMethod yX13_close, Cond.selects RX13 yX13_close yX13_close, Cond.code yX13_close cX13_close 2 none, Cond.methodLink RX13 329 yX13_sign, Cond.instanceMethod yX13_sign, Cond.selects RX13 yX13_sign yX13_sign, Cond.code yX13_sign cX13_sign 2 none, Cond.methodLink RX13 475 yX13_cellOf, Cond.instanceMethod yX13_cellOf, Cond.selects RX13 yX13_cellOf yX13_cellOf, Cond.code yX13_cellOf cX13_cellOf 4 (some .int), Cond.fieldLink RX13 45 "ChanceWorksModel" "arrSizes" "[I", Cond.fieldLink RX13 48 "ChanceWorksModel" "arrFirsts" "[I", Cond.methodLink RX13 572 yX13_fail, Cond.instanceMethod yX13_fail, Cond.selects RX13 yX13_fail yX13_fail, Cond.code yX13_fail cX13_fail 2 (some .int), Cond.methodLink RX13 591 yX13_findPlace, Cond.instanceMethod yX13_findPlace, Cond.selects RX13 yX13_findPlace yX13_findPlace, Cond.code yX13_findPlace cX13_findPlace 4 none, Cond.methodLink RX13 569 yX13_workAt, Cond.instanceMethod yX13_workAt]
def wsX13_explore_r11 : List Cond := [Cond.selects RX13 yX13_workAt yX13_workAt, Cond.code yX13_workAt cX13_workAt 2 (some .int), Cond.methodLink RX13 594 yX13_draw, Cond.instanceMethod yX13_draw, Cond.selects RX13 yX13_draw yX13_draw, Cond.code yX13_draw cX13_draw 7 (some .int), Cond.constant RX13 584 (1000000), Cond.methodLink RX13 391 yX13_isWord, Cond.instanceMethod yX13_isWord, Cond.selects RX13 yX13_isWord yX13_isWord, Cond.code yX13_isWord cX13_isWord 2 (some .boolean), Cond.methodLink RX13 578 yX13_outcome, Cond.instanceMethod yX13_outcome, Cond.selects RX13 yX13_outcome yX13_outcome, Cond.code yX13_outcome cX13_outcome 3 none, Cond.fieldLink RX13 131 "ChanceWorksModel" "outValues" "[I", Cond.methodLink RX13 597 yX13_choose, Cond.instanceMethod yX13_choose, Cond.selects RX13 yX13_choose yX13_choose, Cond.code yX13_choose cX13_choose 4 (some .int), Cond.methodLink RX13 624 yX13_addNext, Cond.instanceMethod yX13_addNext, Cond.selects RX13 yX13_addNext yX13_addNext, Cond.code yX13_addNext cX13_addNext 7 (some .boolean)]
def wsX13_explore_r12 : List Cond := [Cond.fieldLink RX13 154 "ChanceWorksModel" "nextKinds" "[I", Cond.fieldLink RX13 157 "ChanceWorksModel" "nextNumbers" "[I", Cond.fieldLink RX13 160 "ChanceWorksModel" "nextWeights" "[I", Cond.methodLink RX13 628 yX13_get, Cond.instanceMethod yX13_get, Cond.selects RX13 yX13_get yX13_get, Cond.code yX13_get cX13_get 2 (some .int), Cond.methodLink RX13 637 yX13_findRings, Cond.instanceMethod yX13_findRings, Cond.selects RX13 yX13_findRings yX13_findRings, Cond.code yX13_findRings cX13_findRings 3 none, Cond.fieldLink RX13 181 "ChanceWorksModel" "isHopeless" "[Z", Cond.fieldLink RX13 658 "ChanceWorksModel" "rings" "I", Cond.fieldLink RX13 661 "ChanceWorksModel" "greatestRing" "I", Cond.methodLink RX13 654 yX13_findReach, Cond.instanceMethod yX13_findReach, Cond.selects RX13 yX13_findReach yX13_findReach, Cond.code yX13_findReach cX13_findReach 7 none, Cond.fieldLink RX13 178 "ChanceWorksModel" "reach" "[J", Cond.methodLink RX13 640 yX13_isTaken, Cond.instanceMethod yX13_isTaken, Cond.selects RX13 yX13_isTaken yX13_isTaken, Cond.code yX13_isTaken cX13_isTaken 4 (some .boolean), Cond.methodLink RX13 644 yX13_leads]
def wsX13_explore_r13 : List Cond := [Cond.instanceMethod yX13_leads, Cond.selects RX13 yX13_leads yX13_leads, Cond.code yX13_leads cX13_leads 3 (some .boolean), Cond.methodLink RX13 664 yX13_canEnd, Cond.instanceMethod yX13_canEnd, Cond.selects RX13 yX13_canEnd yX13_canEnd, Cond.code yX13_canEnd cX13_canEnd 5 (some .boolean), Cond.methodLink RX13 647 yX13_endsAtOnce, Cond.instanceMethod yX13_endsAtOnce, Cond.selects RX13 yX13_endsAtOnce yX13_endsAtOnce, Cond.code yX13_endsAtOnce cX13_endsAtOnce 5 (some .boolean), Cond.methodLink RX13 667 yX13_ringOf, Cond.instanceMethod yX13_ringOf, Cond.selects RX13 yX13_ringOf yX13_ringOf, Cond.code yX13_ringOf cX13_ringOf 4 (some .int), Cond.methodLink RX13 651 yX13_isRingWith, Cond.instanceMethod yX13_isRingWith, Cond.selects RX13 yX13_isRingWith yX13_isRingWith, Cond.code yX13_isRingWith cX13_isRingWith 3 (some .boolean)]
def wsX13_explore : List Cond := .code yX13_explore cX13_explore 4 (some .int) :: ((wsX13_explore_r1 ++ (wsX13_explore_r2 ++ (wsX13_explore_r3 ++ (wsX13_explore_r4 ++ (wsX13_explore_r5 ++ (wsX13_explore_r6 ++ (wsX13_explore_r7 ++ (wsX13_explore_r8 ++ (wsX13_explore_r9 ++ (wsX13_explore_r10 ++ (wsX13_explore_r11 ++ (wsX13_explore_r12 ++ wsX13_explore_r13)))))))))))) ++ wsX130 ++ (vx_atM "java/lang/ArrayIndexOutOfBoundsException" ["java/lang/IndexOutOfBoundsException", "java/lang/RuntimeException", "java/lang/Exception"]).filter goodWord)
def wsX13_count : List Cond := .code yX13_count cX13_count 5 (some .int) :: ([.fieldLink RX13 1 "ChanceWorksModel" "code" "I", .fieldLink RX13 542 "ChanceWorksModel" "states" "I", .fieldLink RX13 166 "ChanceWorksModel" "isChoice" "[Z", .fieldLink RX13 181 "ChanceWorksModel" "isHopeless" "[Z", .fieldLink RX13 533 "ChanceWorksModel" "isExplored" "Z", .fieldLink RX13 529 "ChanceWorksModel" "stands" "Z", .fieldLink RX13 333 "ChanceWorksModel" "vars" "I", .fieldLink RX13 340 "ChanceWorksModel" "arrs" "I", .fieldLink RX13 343 "ChanceWorksModel" "funcs" "I", .fieldLink RX13 378 "ChanceWorksModel" "statements" "I", .fieldLink RX13 545 "ChanceWorksModel" "endings" "I", .fieldLink RX13 548 "ChanceWorksModel" "nextCount" "I", .fieldLink RX13 658 "ChanceWorksModel" "rings" "I", .fieldLink RX13 661 "ChanceWorksModel" "greatestRing" "I", .fieldLink RX13 253 "ChanceWorksModel" "size" "I", .methodLink RX13 362 yX13_within, .static yX13_within, .initialized RX13, .code yX13_within cX13_within 3 (some .boolean)] ++ wsX130 ++ (vx_atM "java/lang/ArrayIndexOutOfBoundsException" ["java/lang/IndexOutOfBoundsException", "java/lang/RuntimeException", "java/lang/Exception"]).filter goodWord)
def wsX13_isState : List Cond := .code yX13_isState cX13_isState 2 (some .boolean) :: ([.fieldLink RX13 533 "ChanceWorksModel" "isExplored" "Z", .fieldLink RX13 542 "ChanceWorksModel" "states" "I"] ++ wsX130)
def wsX13_latestAt : List Cond := .code yX13_latestAt cX13_latestAt 2 (some .int) :: ([.fieldLink RX13 141 "ChanceWorksModel" "stateRows" "[I"] ++ wsX130 ++ (vx_atM "java/lang/ArrayIndexOutOfBoundsException" ["java/lang/IndexOutOfBoundsException", "java/lang/RuntimeException", "java/lang/Exception"]).filter goodWord)
def wsX13_state : List Cond := .code yX13_state cX13_state 3 (some .int) :: ([.fieldLink RX13 1 "ChanceWorksModel" "code" "I", .fieldLink RX13 141 "ChanceWorksModel" "stateRows" "[I", .fieldLink RX13 151 "ChanceWorksModel" "nextStarts" "[I", .fieldLink RX13 166 "ChanceWorksModel" "isChoice" "[Z", .fieldLink RX13 181 "ChanceWorksModel" "isHopeless" "[Z", .fieldLink RX13 163 "ChanceWorksModel" "totals" "[I", .methodLink RX13 670 yX13_isState, .instanceMethod yX13_isState, .selects RX13 yX13_isState yX13_isState, .initialized RX13, .code yX13_isState cX13_isState 2 (some .boolean), .fieldLink RX13 533 "ChanceWorksModel" "isExplored" "Z", .fieldLink RX13 542 "ChanceWorksModel" "states" "I", .methodLink RX13 362 yX13_within, .static yX13_within, .code yX13_within cX13_within 3 (some .boolean), .methodLink RX13 673 yX13_latestAt, .instanceMethod yX13_latestAt, .selects RX13 yX13_latestAt yX13_latestAt, .code yX13_latestAt cX13_latestAt 2 (some .int)] ++ wsX130 ++ (vx_atM "java/lang/ArrayIndexOutOfBoundsException" ["java/lang/IndexOutOfBoundsException", "java/lang/RuntimeException", "java/lang/Exception"]).filter goodWord)
def wsX13_value : List Cond := .code yX13_value cX13_value 5 (some .int) :: ([.fieldLink RX13 333 "ChanceWorksModel" "vars" "I", .fieldLink RX13 369 "ChanceWorksModel" "cells" "I", .fieldLink RX13 141 "ChanceWorksModel" "stateRows" "[I", .fieldLink RX13 57 "ChanceWorksModel" "variables" "[I", .fieldLink RX13 90 "ChanceWorksModel" "ofFunctions" "[I", .fieldLink RX13 1 "ChanceWorksModel" "code" "I", .methodLink RX13 670 yX13_isState, .instanceMethod yX13_isState, .selects RX13 yX13_isState yX13_isState, .initialized RX13, .code yX13_isState cX13_isState 2 (some .boolean), .fieldLink RX13 533 "ChanceWorksModel" "isExplored" "Z", .fieldLink RX13 542 "ChanceWorksModel" "states" "I"] ++ wsX130 ++ (vx_atM "java/lang/ArrayIndexOutOfBoundsException" ["java/lang/IndexOutOfBoundsException", "java/lang/RuntimeException", "java/lang/Exception"]).filter goodWord)
def wsX13_next : List Cond := .code yX13_next cX13_next 5 (some .int) :: ([.fieldLink RX13 151 "ChanceWorksModel" "nextStarts" "[I", .fieldLink RX13 1 "ChanceWorksModel" "code" "I", .fieldLink RX13 154 "ChanceWorksModel" "nextKinds" "[I", .fieldLink RX13 157 "ChanceWorksModel" "nextNumbers" "[I", .fieldLink RX13 160 "ChanceWorksModel" "nextWeights" "[I", .methodLink RX13 670 yX13_isState, .instanceMethod yX13_isState, .selects RX13 yX13_isState yX13_isState, .initialized RX13, .code yX13_isState cX13_isState 2 (some .boolean), .fieldLink RX13 533 "ChanceWorksModel" "isExplored" "Z", .fieldLink RX13 542 "ChanceWorksModel" "states" "I", .methodLink RX13 362 yX13_within, .static yX13_within, .code yX13_within cX13_within 3 (some .boolean)] ++ wsX130 ++ (vx_atM "java/lang/ArrayIndexOutOfBoundsException" ["java/lang/IndexOutOfBoundsException", "java/lang/RuntimeException", "java/lang/Exception"]).filter goodWord)
def wsX13_ending : List Cond := .code yX13_ending cX13_ending 3 (some .int) :: ([.fieldLink RX13 533 "ChanceWorksModel" "isExplored" "Z", .fieldLink RX13 545 "ChanceWorksModel" "endings" "I", .fieldLink RX13 333 "ChanceWorksModel" "vars" "I", .fieldLink RX13 369 "ChanceWorksModel" "cells" "I", .fieldLink RX13 1 "ChanceWorksModel" "code" "I", .fieldLink RX13 148 "ChanceWorksModel" "endingRows" "[I"] ++ wsX130 ++ (vx_atM "java/lang/ArrayIndexOutOfBoundsException" ["java/lang/IndexOutOfBoundsException", "java/lang/RuntimeException", "java/lang/Exception"]).filter goodWord)
def wsX13_decide : List Cond := .code yX13_decide cX13_decide 4 (some .int) :: ([.fieldLink RX13 166 "ChanceWorksModel" "isChoice" "[Z", .fieldLink RX13 151 "ChanceWorksModel" "nextStarts" "[I", .fieldLink RX13 1 "ChanceWorksModel" "code" "I", .fieldLink RX13 172 "ChanceWorksModel" "plan" "[I", .fieldLink RX13 536 "ChanceWorksModel" "isSolved" "Z", .methodLink RX13 670 yX13_isState, .instanceMethod yX13_isState, .selects RX13 yX13_isState yX13_isState, .initialized RX13, .code yX13_isState cX13_isState 2 (some .boolean), .fieldLink RX13 533 "ChanceWorksModel" "isExplored" "Z", .fieldLink RX13 542 "ChanceWorksModel" "states" "I"] ++ wsX130 ++ (vx_atM "java/lang/ArrayIndexOutOfBoundsException" ["java/lang/IndexOutOfBoundsException", "java/lang/RuntimeException", "java/lang/Exception"]).filter goodWord)
def wsX13_decided : List Cond := .code yX13_decided cX13_decided 2 (some .int) :: ([.fieldLink RX13 166 "ChanceWorksModel" "isChoice" "[Z", .fieldLink RX13 1 "ChanceWorksModel" "code" "I", .fieldLink RX13 172 "ChanceWorksModel" "plan" "[I", .methodLink RX13 670 yX13_isState, .instanceMethod yX13_isState, .selects RX13 yX13_isState yX13_isState, .initialized RX13, .code yX13_isState cX13_isState 2 (some .boolean), .fieldLink RX13 533 "ChanceWorksModel" "isExplored" "Z", .fieldLink RX13 542 "ChanceWorksModel" "states" "I"] ++ wsX130 ++ (vx_atM "java/lang/ArrayIndexOutOfBoundsException" ["java/lang/IndexOutOfBoundsException", "java/lang/RuntimeException", "java/lang/Exception"]).filter goodWord)
def wsX13_set : List Cond := .code yX13_set cX13_set 7 none :: ([.fieldLink RX13 185 "ChanceWorksModel" "big" "[I", .constant RX13 676 (40000), .constantLong RX13 677 (65535), .fieldLink RX13 188 "ChanceWorksModel" "lengths" "[I"] ++ wsX130 ++ (vx_atM "java/lang/ArrayIndexOutOfBoundsException" ["java/lang/IndexOutOfBoundsException", "java/lang/RuntimeException", "java/lang/Exception"]).filter goodWord)
def wsX13_copy : List Cond := .code yX13_copy cX13_copy 4 none :: ([.fieldLink RX13 188 "ChanceWorksModel" "lengths" "[I", .fieldLink RX13 185 "ChanceWorksModel" "big" "[I", .constant RX13 676 (40000)] ++ wsX130 ++ (vx_atM "java/lang/ArrayIndexOutOfBoundsException" ["java/lang/IndexOutOfBoundsException", "java/lang/RuntimeException", "java/lang/Exception"]).filter goodWord)
def wsX13_isZero : List Cond := .code yX13_isZero cX13_isZero 2 (some .boolean) :: ([.fieldLink RX13 188 "ChanceWorksModel" "lengths" "[I"] ++ wsX130 ++ (vx_atM "java/lang/ArrayIndexOutOfBoundsException" ["java/lang/IndexOutOfBoundsException", "java/lang/RuntimeException", "java/lang/Exception"]).filter goodWord)
def wsX13_reduce_r1 : List Cond := [Cond.fieldLink RX13 188 "ChanceWorksModel" "lengths" "[I", Cond.fieldLink RX13 185 "ChanceWorksModel" "big" "[I", Cond.constant RX13 676 (40000), Cond.methodLink RX13 696 yX13_isZero, Cond.instanceMethod yX13_isZero, Cond.selects RX13 yX13_isZero yX13_isZero, Cond.initialized RX13, Cond.code yX13_isZero cX13_isZero 2 (some .boolean), Cond.methodLink RX13 699 yX13_set, Cond.instanceMethod yX13_set, Cond.selects RX13 yX13_set yX13_set, Cond.code yX13_set cX13_set 7 none, Cond.constantLong RX13 677 (65535), Cond.methodLink RX13 703 yX13_copy, Cond.instanceMethod yX13_copy, Cond.selects RX13 yX13_copy yX13_copy, Cond.code yX13_copy cX13_copy 4 none, Cond.methodLink RX13 706 yX13_divide, Cond.instanceMethod yX13_divide, Cond.selects RX13 yX13_divide yX13_divide, Cond.code yX13_divide cX13_divide 8 none, Cond.constant RX13 686 (32768), Cond.methodLink RX13 683 yX13_compare, Cond.instanceMethod yX13_compare]
def wsX13_reduce_r2 : List Cond := [Cond.selects RX13 yX13_compare yX13_compare, Cond.code yX13_compare cX13_compare 5 (some .int), Cond.methodLink RX13 687 yX13_shiftUp, Cond.instanceMethod yX13_shiftUp, Cond.selects RX13 yX13_shiftUp yX13_shiftUp, Cond.code yX13_shiftUp cX13_shiftUp 6 none, Cond.constant RX13 679 (65535), Cond.methodLink RX13 680 yX13_trim, Cond.instanceMethod yX13_trim, Cond.selects RX13 yX13_trim yX13_trim, Cond.code yX13_trim cX13_trim 2 none, Cond.methodLink RX13 690 yX13_oneDigit, Cond.instanceMethod yX13_oneDigit, Cond.selects RX13 yX13_oneDigit yX13_oneDigit, Cond.code yX13_oneDigit cX13_oneDigit 21 (some .int), Cond.methodLink RX13 693 yX13_shiftDown, Cond.instanceMethod yX13_shiftDown, Cond.selects RX13 yX13_shiftDown yX13_shiftDown, Cond.code yX13_shiftDown cX13_shiftDown 5 none]
def wsX13_reduce : List Cond := .code yX13_reduce cX13_reduce 4 none :: ((wsX13_reduce_r1 ++ wsX13_reduce_r2) ++ wsX130 ++ (vx_atM "java/lang/ArrayIndexOutOfBoundsException" ["java/lang/IndexOutOfBoundsException", "java/lang/RuntimeException", "java/lang/Exception"]).filter goodWord)
def wsX13_clearSum : List Cond := .code yX13_clearSum cX13_clearSum 1 none :: ([.fieldLink RX13 710 "ChanceWorksModel" "sign" "I", .methodLink RX13 699 yX13_set, .instanceMethod yX13_set, .selects RX13 yX13_set yX13_set, .initialized RX13, .code yX13_set cX13_set 7 none, .fieldLink RX13 185 "ChanceWorksModel" "big" "[I", .constant RX13 676 (40000), .constantLong RX13 677 (65535), .fieldLink RX13 188 "ChanceWorksModel" "lengths" "[I"] ++ wsX130 ++ (vx_atM "java/lang/ArrayIndexOutOfBoundsException" ["java/lang/IndexOutOfBoundsException", "java/lang/RuntimeException", "java/lang/Exception"]).filter goodWord)
def wsX13_add_r1 : List Cond := [Cond.fieldLink RX13 710 "ChanceWorksModel" "sign" "I", Cond.methodLink RX13 712 yX13_times, Cond.instanceMethod yX13_times, Cond.selects RX13 yX13_times yX13_times, Cond.initialized RX13, Cond.code yX13_times cX13_times 14 none, Cond.fieldLink RX13 188 "ChanceWorksModel" "lengths" "[I", Cond.fieldLink RX13 185 "ChanceWorksModel" "big" "[I", Cond.constant RX13 676 (40000), Cond.constantLong RX13 677 (65535), Cond.methodLink RX13 680 yX13_trim, Cond.instanceMethod yX13_trim, Cond.selects RX13 yX13_trim yX13_trim, Cond.code yX13_trim cX13_trim 2 none, Cond.methodLink RX13 696 yX13_isZero, Cond.instanceMethod yX13_isZero, Cond.selects RX13 yX13_isZero yX13_isZero, Cond.code yX13_isZero cX13_isZero 2 (some .boolean), Cond.methodLink RX13 715 yX13_plus, Cond.instanceMethod yX13_plus, Cond.selects RX13 yX13_plus yX13_plus, Cond.code yX13_plus cX13_plus 7 none, Cond.constant RX13 679 (65535), Cond.methodLink RX13 683 yX13_compare]
def wsX13_add_r2 : List Cond := [Cond.instanceMethod yX13_compare, Cond.selects RX13 yX13_compare yX13_compare, Cond.code yX13_compare cX13_compare 5 (some .int), Cond.methodLink RX13 718 yX13_minus, Cond.instanceMethod yX13_minus, Cond.selects RX13 yX13_minus yX13_minus, Cond.code yX13_minus cX13_minus 6 none, Cond.methodLink RX13 703 yX13_copy, Cond.instanceMethod yX13_copy, Cond.selects RX13 yX13_copy yX13_copy, Cond.code yX13_copy cX13_copy 4 none, Cond.methodLink RX13 721 yX13_reduce, Cond.instanceMethod yX13_reduce, Cond.selects RX13 yX13_reduce yX13_reduce, Cond.code yX13_reduce cX13_reduce 4 none, Cond.methodLink RX13 699 yX13_set, Cond.instanceMethod yX13_set, Cond.selects RX13 yX13_set yX13_set, Cond.code yX13_set cX13_set 7 none, Cond.methodLink RX13 706 yX13_divide, Cond.instanceMethod yX13_divide, Cond.selects RX13 yX13_divide yX13_divide, Cond.code yX13_divide cX13_divide 8 none, Cond.constant RX13 686 (32768)]
def wsX13_add_r3 : List Cond := [Cond.methodLink RX13 687 yX13_shiftUp, Cond.instanceMethod yX13_shiftUp, Cond.selects RX13 yX13_shiftUp yX13_shiftUp, Cond.code yX13_shiftUp cX13_shiftUp 6 none, Cond.methodLink RX13 690 yX13_oneDigit, Cond.instanceMethod yX13_oneDigit, Cond.selects RX13 yX13_oneDigit yX13_oneDigit, Cond.code yX13_oneDigit cX13_oneDigit 21 (some .int), Cond.methodLink RX13 693 yX13_shiftDown, Cond.instanceMethod yX13_shiftDown, Cond.selects RX13 yX13_shiftDown yX13_shiftDown, Cond.code yX13_shiftDown cX13_shiftDown 5 none]
def wsX13_add : List Cond := .code yX13_add cX13_add 2 none :: ((wsX13_add_r1 ++ (wsX13_add_r2 ++ wsX13_add_r3)) ++ wsX130 ++ (vx_atM "java/lang/ArrayIndexOutOfBoundsException" ["java/lang/IndexOutOfBoundsException", "java/lang/RuntimeException", "java/lang/Exception"]).filter goodWord)
def wsX13_isLong : List Cond := .code yX13_isLong cX13_isLong 2 (some .boolean) :: ([.fieldLink RX13 188 "ChanceWorksModel" "lengths" "[I"] ++ wsX130 ++ (vx_atM "java/lang/ArrayIndexOutOfBoundsException" ["java/lang/IndexOutOfBoundsException", "java/lang/RuntimeException", "java/lang/Exception"]).filter goodWord)
def wsX13_keepVisits : List Cond := .code yX13_keepVisits cX13_keepVisits 4 none :: ([.fieldLink RX13 214 "ChanceWorksModel" "visits" "[I", .fieldLink RX13 188 "ChanceWorksModel" "lengths" "[I", .fieldLink RX13 185 "ChanceWorksModel" "big" "[I", .constant RX13 733 (160000), .constant RX13 734 (200000)] ++ wsX130 ++ (vx_atM "java/lang/ArrayIndexOutOfBoundsException" ["java/lang/IndexOutOfBoundsException", "java/lang/RuntimeException", "java/lang/Exception"]).filter goodWord)
def wsX13_loadVisits : List Cond := .code yX13_loadVisits cX13_loadVisits 4 none :: ([.fieldLink RX13 188 "ChanceWorksModel" "lengths" "[I", .fieldLink RX13 214 "ChanceWorksModel" "visits" "[I", .fieldLink RX13 185 "ChanceWorksModel" "big" "[I", .constant RX13 735 (240000), .constant RX13 736 (280000)] ++ wsX130 ++ (vx_atM "java/lang/ArrayIndexOutOfBoundsException" ["java/lang/IndexOutOfBoundsException", "java/lang/RuntimeException", "java/lang/Exception"]).filter goodWord)
def wsX13_sumInflow_r1 : List Cond := [Cond.fieldLink RX13 542 "ChanceWorksModel" "states" "I", Cond.fieldLink RX13 151 "ChanceWorksModel" "nextStarts" "[I", Cond.fieldLink RX13 198 "ChanceWorksModel" "isDone" "[Z", Cond.fieldLink RX13 154 "ChanceWorksModel" "nextKinds" "[I", Cond.fieldLink RX13 157 "ChanceWorksModel" "nextNumbers" "[I", Cond.methodLink RX13 640 yX13_isTaken, Cond.instanceMethod yX13_isTaken, Cond.selects RX13 yX13_isTaken yX13_isTaken, Cond.initialized RX13, Cond.code yX13_isTaken cX13_isTaken 4 (some .boolean), Cond.fieldLink RX13 166 "ChanceWorksModel" "isChoice" "[Z", Cond.fieldLink RX13 172 "ChanceWorksModel" "plan" "[I", Cond.methodLink RX13 737 yX13_loadVisits, Cond.instanceMethod yX13_loadVisits, Cond.selects RX13 yX13_loadVisits yX13_loadVisits, Cond.code yX13_loadVisits cX13_loadVisits 4 none, Cond.fieldLink RX13 188 "ChanceWorksModel" "lengths" "[I", Cond.fieldLink RX13 214 "ChanceWorksModel" "visits" "[I", Cond.fieldLink RX13 185 "ChanceWorksModel" "big" "[I", Cond.constant RX13 735 (240000), Cond.constant RX13 736 (280000), Cond.methodLink RX13 740 yX13_weightOf, Cond.instanceMethod yX13_weightOf, Cond.selects RX13 yX13_weightOf yX13_weightOf]
def wsX13_sumInflow_r2 : List Cond := [Cond.code yX13_weightOf cX13_weightOf 3 (some .long), Cond.fieldLink RX13 160 "ChanceWorksModel" "nextWeights" "[I", Cond.methodLink RX13 744 yX13_totalOf, Cond.instanceMethod yX13_totalOf, Cond.selects RX13 yX13_totalOf yX13_totalOf, Cond.code yX13_totalOf cX13_totalOf 2 (some .long), Cond.fieldLink RX13 163 "ChanceWorksModel" "totals" "[I", Cond.methodLink RX13 748 yX13_scale, Cond.instanceMethod yX13_scale, Cond.selects RX13 yX13_scale yX13_scale, Cond.code yX13_scale cX13_scale 5 none, Cond.methodLink RX13 699 yX13_set, Cond.instanceMethod yX13_set, Cond.selects RX13 yX13_set yX13_set, Cond.code yX13_set cX13_set 7 none, Cond.constant RX13 676 (40000), Cond.constantLong RX13 677 (65535), Cond.methodLink RX13 712 yX13_times, Cond.instanceMethod yX13_times, Cond.selects RX13 yX13_times yX13_times, Cond.code yX13_times cX13_times 14 none, Cond.methodLink RX13 680 yX13_trim, Cond.instanceMethod yX13_trim, Cond.selects RX13 yX13_trim yX13_trim]
def wsX13_sumInflow_r3 : List Cond := [Cond.code yX13_trim cX13_trim 2 none, Cond.methodLink RX13 703 yX13_copy, Cond.instanceMethod yX13_copy, Cond.selects RX13 yX13_copy yX13_copy, Cond.code yX13_copy cX13_copy 4 none, Cond.methodLink RX13 721 yX13_reduce, Cond.instanceMethod yX13_reduce, Cond.selects RX13 yX13_reduce yX13_reduce, Cond.code yX13_reduce cX13_reduce 4 none, Cond.methodLink RX13 696 yX13_isZero, Cond.instanceMethod yX13_isZero, Cond.selects RX13 yX13_isZero yX13_isZero, Cond.code yX13_isZero cX13_isZero 2 (some .boolean), Cond.methodLink RX13 706 yX13_divide, Cond.instanceMethod yX13_divide, Cond.selects RX13 yX13_divide yX13_divide, Cond.code yX13_divide cX13_divide 8 none, Cond.constant RX13 686 (32768), Cond.methodLink RX13 683 yX13_compare, Cond.instanceMethod yX13_compare, Cond.selects RX13 yX13_compare yX13_compare, Cond.code yX13_compare cX13_compare 5 (some .int), Cond.methodLink RX13 687 yX13_shiftUp, Cond.instanceMethod yX13_shiftUp]
def wsX13_sumInflow_r4 : List Cond := [Cond.selects RX13 yX13_shiftUp yX13_shiftUp, Cond.code yX13_shiftUp cX13_shiftUp 6 none, Cond.constant RX13 679 (65535), Cond.methodLink RX13 690 yX13_oneDigit, Cond.instanceMethod yX13_oneDigit, Cond.selects RX13 yX13_oneDigit yX13_oneDigit, Cond.code yX13_oneDigit cX13_oneDigit 21 (some .int), Cond.methodLink RX13 693 yX13_shiftDown, Cond.instanceMethod yX13_shiftDown, Cond.selects RX13 yX13_shiftDown yX13_shiftDown, Cond.code yX13_shiftDown cX13_shiftDown 5 none, Cond.methodLink RX13 752 yX13_takeTimes, Cond.instanceMethod yX13_takeTimes, Cond.selects RX13 yX13_takeTimes yX13_takeTimes, Cond.code yX13_takeTimes cX13_takeTimes 2 none, Cond.methodLink RX13 724 yX13_load, Cond.instanceMethod yX13_load, Cond.selects RX13 yX13_load yX13_load, Cond.code yX13_load cX13_load 6 none, Cond.fieldLink RX13 192 "ChanceWorksModel" "slots" "[I", Cond.methodLink RX13 727 yX13_add, Cond.instanceMethod yX13_add, Cond.selects RX13 yX13_add yX13_add, Cond.code yX13_add cX13_add 2 none]
def wsX13_sumInflow_r5 : List Cond := [Cond.fieldLink RX13 710 "ChanceWorksModel" "sign" "I", Cond.methodLink RX13 715 yX13_plus, Cond.instanceMethod yX13_plus, Cond.selects RX13 yX13_plus yX13_plus, Cond.code yX13_plus cX13_plus 7 none, Cond.methodLink RX13 718 yX13_minus, Cond.instanceMethod yX13_minus, Cond.selects RX13 yX13_minus yX13_minus, Cond.code yX13_minus cX13_minus 6 none]
def wsX13_sumInflow : List Cond := .code yX13_sumInflow cX13_sumInflow 5 none :: ((wsX13_sumInflow_r1 ++ (wsX13_sumInflow_r2 ++ (wsX13_sumInflow_r3 ++ (wsX13_sumInflow_r4 ++ wsX13_sumInflow_r5)))) ++ wsX130 ++ (vx_atM "java/lang/ArrayIndexOutOfBoundsException" ["java/lang/IndexOutOfBoundsException", "java/lang/RuntimeException", "java/lang/Exception"]).filter goodWord)
def wsX13_solveRing_r1 : List Cond := [Cond.fieldLink RX13 755 "ChanceWorksModel" "memberCount" "I", Cond.fieldLink RX13 207 "ChanceWorksModel" "members" "[I", Cond.fieldLink RX13 198 "ChanceWorksModel" "isDone" "[Z", Cond.methodLink RX13 769 yX13_layRing, Cond.instanceMethod yX13_layRing, Cond.selects RX13 yX13_layRing yX13_layRing, Cond.initialized RX13, Cond.code yX13_layRing cX13_layRing 9 none, Cond.fieldLink RX13 151 "ChanceWorksModel" "nextStarts" "[I", Cond.fieldLink RX13 154 "ChanceWorksModel" "nextKinds" "[I", Cond.fieldLink RX13 157 "ChanceWorksModel" "nextNumbers" "[I", Cond.methodLink RX13 744 yX13_totalOf, Cond.instanceMethod yX13_totalOf, Cond.selects RX13 yX13_totalOf yX13_totalOf, Cond.code yX13_totalOf cX13_totalOf 2 (some .long), Cond.fieldLink RX13 166 "ChanceWorksModel" "isChoice" "[Z", Cond.fieldLink RX13 163 "ChanceWorksModel" "totals" "[I", Cond.methodLink RX13 640 yX13_isTaken, Cond.instanceMethod yX13_isTaken, Cond.selects RX13 yX13_isTaken yX13_isTaken, Cond.code yX13_isTaken cX13_isTaken 4 (some .boolean), Cond.fieldLink RX13 172 "ChanceWorksModel" "plan" "[I", Cond.methodLink RX13 740 yX13_weightOf, Cond.instanceMethod yX13_weightOf]
def wsX13_solveRing_r2 : List Cond := [Cond.selects RX13 yX13_weightOf yX13_weightOf, Cond.code yX13_weightOf cX13_weightOf 3 (some .long), Cond.fieldLink RX13 160 "ChanceWorksModel" "nextWeights" "[I", Cond.methodLink RX13 758 yX13_keepSmall, Cond.instanceMethod yX13_keepSmall, Cond.selects RX13 yX13_keepSmall yX13_keepSmall, Cond.code yX13_keepSmall cX13_keepSmall 6 none, Cond.methodLink RX13 699 yX13_set, Cond.instanceMethod yX13_set, Cond.selects RX13 yX13_set yX13_set, Cond.code yX13_set cX13_set 7 none, Cond.fieldLink RX13 185 "ChanceWorksModel" "big" "[I", Cond.constant RX13 676 (40000), Cond.constantLong RX13 677 (65535), Cond.fieldLink RX13 188 "ChanceWorksModel" "lengths" "[I", Cond.methodLink RX13 721 yX13_reduce, Cond.instanceMethod yX13_reduce, Cond.selects RX13 yX13_reduce yX13_reduce, Cond.code yX13_reduce cX13_reduce 4 none, Cond.methodLink RX13 696 yX13_isZero, Cond.instanceMethod yX13_isZero, Cond.selects RX13 yX13_isZero yX13_isZero, Cond.code yX13_isZero cX13_isZero 2 (some .boolean), Cond.methodLink RX13 703 yX13_copy]
def wsX13_solveRing_r3 : List Cond := [Cond.instanceMethod yX13_copy, Cond.selects RX13 yX13_copy yX13_copy, Cond.code yX13_copy cX13_copy 4 none, Cond.methodLink RX13 706 yX13_divide, Cond.instanceMethod yX13_divide, Cond.selects RX13 yX13_divide yX13_divide, Cond.code yX13_divide cX13_divide 8 none, Cond.constant RX13 686 (32768), Cond.methodLink RX13 683 yX13_compare, Cond.instanceMethod yX13_compare, Cond.selects RX13 yX13_compare yX13_compare, Cond.code yX13_compare cX13_compare 5 (some .int), Cond.methodLink RX13 687 yX13_shiftUp, Cond.instanceMethod yX13_shiftUp, Cond.selects RX13 yX13_shiftUp yX13_shiftUp, Cond.code yX13_shiftUp cX13_shiftUp 6 none, Cond.constant RX13 679 (65535), Cond.methodLink RX13 680 yX13_trim, Cond.instanceMethod yX13_trim, Cond.selects RX13 yX13_trim yX13_trim, Cond.code yX13_trim cX13_trim 2 none, Cond.methodLink RX13 690 yX13_oneDigit, Cond.instanceMethod yX13_oneDigit, Cond.selects RX13 yX13_oneDigit yX13_oneDigit]
def wsX13_solveRing_r4 : List Cond := [Cond.code yX13_oneDigit cX13_oneDigit 21 (some .int), Cond.methodLink RX13 693 yX13_shiftDown, Cond.instanceMethod yX13_shiftDown, Cond.selects RX13 yX13_shiftDown yX13_shiftDown, Cond.code yX13_shiftDown cX13_shiftDown 5 none, Cond.methodLink RX13 730 yX13_keepIn, Cond.instanceMethod yX13_keepIn, Cond.selects RX13 yX13_keepIn yX13_keepIn, Cond.code yX13_keepIn cX13_keepIn 6 none, Cond.fieldLink RX13 192 "ChanceWorksModel" "slots" "[I", Cond.methodLink RX13 772 yX13_foldRing, Cond.instanceMethod yX13_foldRing, Cond.selects RX13 yX13_foldRing yX13_foldRing, Cond.code yX13_foldRing cX13_foldRing 4 none, Cond.methodLink RX13 762 yX13_clearSum, Cond.instanceMethod yX13_clearSum, Cond.selects RX13 yX13_clearSum yX13_clearSum, Cond.code yX13_clearSum cX13_clearSum 1 none, Cond.fieldLink RX13 710 "ChanceWorksModel" "sign" "I", Cond.methodLink RX13 724 yX13_load, Cond.instanceMethod yX13_load, Cond.selects RX13 yX13_load yX13_load, Cond.code yX13_load cX13_load 6 none, Cond.methodLink RX13 727 yX13_add]
def wsX13_solveRing_r5 : List Cond := [Cond.instanceMethod yX13_add, Cond.selects RX13 yX13_add yX13_add, Cond.code yX13_add cX13_add 2 none, Cond.methodLink RX13 712 yX13_times, Cond.instanceMethod yX13_times, Cond.selects RX13 yX13_times yX13_times, Cond.code yX13_times cX13_times 14 none, Cond.methodLink RX13 715 yX13_plus, Cond.instanceMethod yX13_plus, Cond.selects RX13 yX13_plus yX13_plus, Cond.code yX13_plus cX13_plus 7 none, Cond.methodLink RX13 718 yX13_minus, Cond.instanceMethod yX13_minus, Cond.selects RX13 yX13_minus yX13_minus, Cond.code yX13_minus cX13_minus 6 none, Cond.methodLink RX13 765 yX13_addProduct, Cond.instanceMethod yX13_addProduct, Cond.selects RX13 yX13_addProduct yX13_addProduct, Cond.code yX13_addProduct cX13_addProduct 5 none, Cond.methodLink RX13 775 yX13_visitFrom, Cond.instanceMethod yX13_visitFrom, Cond.selects RX13 yX13_visitFrom yX13_visitFrom, Cond.code yX13_visitFrom cX13_visitFrom 4 none, Cond.methodLink RX13 778 yX13_sumInflow]
def wsX13_solveRing_r6 : List Cond := [Cond.instanceMethod yX13_sumInflow, Cond.selects RX13 yX13_sumInflow yX13_sumInflow, Cond.code yX13_sumInflow cX13_sumInflow 5 none, Cond.fieldLink RX13 542 "ChanceWorksModel" "states" "I", Cond.methodLink RX13 737 yX13_loadVisits, Cond.instanceMethod yX13_loadVisits, Cond.selects RX13 yX13_loadVisits yX13_loadVisits, Cond.code yX13_loadVisits cX13_loadVisits 4 none, Cond.fieldLink RX13 214 "ChanceWorksModel" "visits" "[I", Cond.constant RX13 735 (240000), Cond.constant RX13 736 (280000), Cond.methodLink RX13 748 yX13_scale, Cond.instanceMethod yX13_scale, Cond.selects RX13 yX13_scale yX13_scale, Cond.code yX13_scale cX13_scale 5 none, Cond.methodLink RX13 752 yX13_takeTimes, Cond.instanceMethod yX13_takeTimes, Cond.selects RX13 yX13_takeTimes yX13_takeTimes, Cond.code yX13_takeTimes cX13_takeTimes 2 none, Cond.methodLink RX13 781 yX13_isLong, Cond.instanceMethod yX13_isLong, Cond.selects RX13 yX13_isLong yX13_isLong, Cond.code yX13_isLong cX13_isLong 2 (some .boolean), Cond.methodLink RX13 784 yX13_keepVisits]
def wsX13_solveRing_r7 : List Cond := [Cond.instanceMethod yX13_keepVisits, Cond.selects RX13 yX13_keepVisits yX13_keepVisits, Cond.code yX13_keepVisits cX13_keepVisits 4 none, Cond.constant RX13 733 (160000), Cond.constant RX13 734 (200000)]
def wsX13_solveRing : List Cond := .code yX13_solveRing cX13_solveRing 4 (some .boolean) :: ((wsX13_solveRing_r1 ++ (wsX13_solveRing_r2 ++ (wsX13_solveRing_r3 ++ (wsX13_solveRing_r4 ++ (wsX13_solveRing_r5 ++ (wsX13_solveRing_r6 ++ wsX13_solveRing_r7)))))) ++ wsX130 ++ (vx_atM "java/lang/ArrayIndexOutOfBoundsException" ["java/lang/IndexOutOfBoundsException", "java/lang/RuntimeException", "java/lang/Exception"]).filter goodWord)
def wsX13_findOrder_r1 : List Cond := [Cond.fieldLink RX13 195 "ChanceWorksModel" "isOpen" "[Z", Cond.fieldLink RX13 542 "ChanceWorksModel" "states" "I", Cond.fieldLink RX13 201 "ChanceWorksModel" "ancestors" "[I", Cond.fieldLink RX13 204 "ChanceWorksModel" "order" "[I", Cond.fieldLink RX13 198 "ChanceWorksModel" "isDone" "[Z", Cond.fieldLink RX13 188 "ChanceWorksModel" "lengths" "[I", Cond.methodLink RX13 654 yX13_findReach, Cond.instanceMethod yX13_findReach, Cond.selects RX13 yX13_findReach yX13_findReach, Cond.initialized RX13, Cond.code yX13_findReach cX13_findReach 7 none, Cond.fieldLink RX13 178 "ChanceWorksModel" "reach" "[J", Cond.fieldLink RX13 151 "ChanceWorksModel" "nextStarts" "[I", Cond.fieldLink RX13 157 "ChanceWorksModel" "nextNumbers" "[I", Cond.fieldLink RX13 154 "ChanceWorksModel" "nextKinds" "[I", Cond.methodLink RX13 640 yX13_isTaken, Cond.instanceMethod yX13_isTaken, Cond.selects RX13 yX13_isTaken yX13_isTaken, Cond.code yX13_isTaken cX13_isTaken 4 (some .boolean), Cond.fieldLink RX13 166 "ChanceWorksModel" "isChoice" "[Z", Cond.fieldLink RX13 172 "ChanceWorksModel" "plan" "[I", Cond.methodLink RX13 644 yX13_leads, Cond.instanceMethod yX13_leads, Cond.selects RX13 yX13_leads yX13_leads]
def wsX13_findOrder_r2 : List Cond := [Cond.code yX13_leads cX13_leads 3 (some .boolean), Cond.methodLink RX13 664 yX13_canEnd, Cond.instanceMethod yX13_canEnd, Cond.selects RX13 yX13_canEnd yX13_canEnd, Cond.code yX13_canEnd cX13_canEnd 5 (some .boolean), Cond.methodLink RX13 647 yX13_endsAtOnce, Cond.instanceMethod yX13_endsAtOnce, Cond.selects RX13 yX13_endsAtOnce yX13_endsAtOnce, Cond.code yX13_endsAtOnce cX13_endsAtOnce 5 (some .boolean), Cond.methodLink RX13 699 yX13_set, Cond.instanceMethod yX13_set, Cond.selects RX13 yX13_set yX13_set, Cond.code yX13_set cX13_set 7 none, Cond.fieldLink RX13 185 "ChanceWorksModel" "big" "[I", Cond.constant RX13 676 (40000), Cond.constantLong RX13 677 (65535), Cond.methodLink RX13 784 yX13_keepVisits, Cond.instanceMethod yX13_keepVisits, Cond.selects RX13 yX13_keepVisits yX13_keepVisits, Cond.code yX13_keepVisits cX13_keepVisits 4 none, Cond.fieldLink RX13 214 "ChanceWorksModel" "visits" "[I", Cond.constant RX13 733 (160000), Cond.constant RX13 734 (200000)]
def wsX13_findOrder : List Cond := .code yX13_findOrder cX13_findOrder 3 none :: ((wsX13_findOrder_r1 ++ wsX13_findOrder_r2) ++ wsX130 ++ (vx_atM "java/lang/ArrayIndexOutOfBoundsException" ["java/lang/IndexOutOfBoundsException", "java/lang/RuntimeException", "java/lang/Exception"]).filter goodWord)
def wsX13_solve_r1 : List Cond := [Cond.fieldLink RX13 533 "ChanceWorksModel" "isExplored" "Z", Cond.fieldLink RX13 1 "ChanceWorksModel" "code" "I", Cond.fieldLink RX13 536 "ChanceWorksModel" "isSolved" "Z", Cond.fieldLink RX13 542 "ChanceWorksModel" "states" "I", Cond.fieldLink RX13 195 "ChanceWorksModel" "isOpen" "[Z", Cond.fieldLink RX13 204 "ChanceWorksModel" "order" "[I", Cond.fieldLink RX13 198 "ChanceWorksModel" "isDone" "[Z", Cond.fieldLink RX13 755 "ChanceWorksModel" "memberCount" "I", Cond.fieldLink RX13 207 "ChanceWorksModel" "members" "[I", Cond.methodLink RX13 787 yX13_findOrder, Cond.instanceMethod yX13_findOrder, Cond.selects RX13 yX13_findOrder yX13_findOrder, Cond.initialized RX13, Cond.code yX13_findOrder cX13_findOrder 3 none, Cond.fieldLink RX13 201 "ChanceWorksModel" "ancestors" "[I", Cond.fieldLink RX13 188 "ChanceWorksModel" "lengths" "[I", Cond.methodLink RX13 654 yX13_findReach, Cond.instanceMethod yX13_findReach, Cond.selects RX13 yX13_findReach yX13_findReach, Cond.code yX13_findReach cX13_findReach 7 none, Cond.fieldLink RX13 178 "ChanceWorksModel" "reach" "[J", Cond.fieldLink RX13 151 "ChanceWorksModel" "nextStarts" "[I", Cond.fieldLink RX13 157 "ChanceWorksModel" "nextNumbers" "[I", Cond.fieldLink RX13 154 "ChanceWorksModel" "nextKinds" "[I"]
def wsX13_solve_r2 : List Cond := [Cond.methodLink RX13 640 yX13_isTaken, Cond.instanceMethod yX13_isTaken, Cond.selects RX13 yX13_isTaken yX13_isTaken, Cond.code yX13_isTaken cX13_isTaken 4 (some .boolean), Cond.fieldLink RX13 166 "ChanceWorksModel" "isChoice" "[Z", Cond.fieldLink RX13 172 "ChanceWorksModel" "plan" "[I", Cond.methodLink RX13 644 yX13_leads, Cond.instanceMethod yX13_leads, Cond.selects RX13 yX13_leads yX13_leads, Cond.code yX13_leads cX13_leads 3 (some .boolean), Cond.methodLink RX13 664 yX13_canEnd, Cond.instanceMethod yX13_canEnd, Cond.selects RX13 yX13_canEnd yX13_canEnd, Cond.code yX13_canEnd cX13_canEnd 5 (some .boolean), Cond.methodLink RX13 647 yX13_endsAtOnce, Cond.instanceMethod yX13_endsAtOnce, Cond.selects RX13 yX13_endsAtOnce yX13_endsAtOnce, Cond.code yX13_endsAtOnce cX13_endsAtOnce 5 (some .boolean), Cond.methodLink RX13 699 yX13_set, Cond.instanceMethod yX13_set, Cond.selects RX13 yX13_set yX13_set, Cond.code yX13_set cX13_set 7 none, Cond.fieldLink RX13 185 "ChanceWorksModel" "big" "[I", Cond.constant RX13 676 (40000)]
def wsX13_solve_r3 : List Cond := [Cond.constantLong RX13 677 (65535), Cond.methodLink RX13 784 yX13_keepVisits, Cond.instanceMethod yX13_keepVisits, Cond.selects RX13 yX13_keepVisits yX13_keepVisits, Cond.code yX13_keepVisits cX13_keepVisits 4 none, Cond.fieldLink RX13 214 "ChanceWorksModel" "visits" "[I", Cond.constant RX13 733 (160000), Cond.constant RX13 734 (200000), Cond.methodLink RX13 667 yX13_ringOf, Cond.instanceMethod yX13_ringOf, Cond.selects RX13 yX13_ringOf yX13_ringOf, Cond.code yX13_ringOf cX13_ringOf 4 (some .int), Cond.methodLink RX13 651 yX13_isRingWith, Cond.instanceMethod yX13_isRingWith, Cond.selects RX13 yX13_isRingWith yX13_isRingWith, Cond.code yX13_isRingWith cX13_isRingWith 3 (some .boolean), Cond.methodLink RX13 790 yX13_solveRing, Cond.instanceMethod yX13_solveRing, Cond.selects RX13 yX13_solveRing yX13_solveRing, Cond.code yX13_solveRing cX13_solveRing 4 (some .boolean), Cond.methodLink RX13 769 yX13_layRing, Cond.instanceMethod yX13_layRing, Cond.selects RX13 yX13_layRing yX13_layRing, Cond.code yX13_layRing cX13_layRing 9 none]
def wsX13_solve_r4 : List Cond := [Cond.methodLink RX13 744 yX13_totalOf, Cond.instanceMethod yX13_totalOf, Cond.selects RX13 yX13_totalOf yX13_totalOf, Cond.code yX13_totalOf cX13_totalOf 2 (some .long), Cond.fieldLink RX13 163 "ChanceWorksModel" "totals" "[I", Cond.methodLink RX13 740 yX13_weightOf, Cond.instanceMethod yX13_weightOf, Cond.selects RX13 yX13_weightOf yX13_weightOf, Cond.code yX13_weightOf cX13_weightOf 3 (some .long), Cond.fieldLink RX13 160 "ChanceWorksModel" "nextWeights" "[I", Cond.methodLink RX13 758 yX13_keepSmall, Cond.instanceMethod yX13_keepSmall, Cond.selects RX13 yX13_keepSmall yX13_keepSmall, Cond.code yX13_keepSmall cX13_keepSmall 6 none, Cond.methodLink RX13 721 yX13_reduce, Cond.instanceMethod yX13_reduce, Cond.selects RX13 yX13_reduce yX13_reduce, Cond.code yX13_reduce cX13_reduce 4 none, Cond.methodLink RX13 696 yX13_isZero, Cond.instanceMethod yX13_isZero, Cond.selects RX13 yX13_isZero yX13_isZero, Cond.code yX13_isZero cX13_isZero 2 (some .boolean), Cond.methodLink RX13 703 yX13_copy, Cond.instanceMethod yX13_copy]
def wsX13_solve_r5 : List Cond := [Cond.selects RX13 yX13_copy yX13_copy, Cond.code yX13_copy cX13_copy 4 none, Cond.methodLink RX13 706 yX13_divide, Cond.instanceMethod yX13_divide, Cond.selects RX13 yX13_divide yX13_divide, Cond.code yX13_divide cX13_divide 8 none, Cond.constant RX13 686 (32768), Cond.methodLink RX13 683 yX13_compare, Cond.instanceMethod yX13_compare, Cond.selects RX13 yX13_compare yX13_compare, Cond.code yX13_compare cX13_compare 5 (some .int), Cond.methodLink RX13 687 yX13_shiftUp, Cond.instanceMethod yX13_shiftUp, Cond.selects RX13 yX13_shiftUp yX13_shiftUp, Cond.code yX13_shiftUp cX13_shiftUp 6 none, Cond.constant RX13 679 (65535), Cond.methodLink RX13 680 yX13_trim, Cond.instanceMethod yX13_trim, Cond.selects RX13 yX13_trim yX13_trim, Cond.code yX13_trim cX13_trim 2 none, Cond.methodLink RX13 690 yX13_oneDigit, Cond.instanceMethod yX13_oneDigit, Cond.selects RX13 yX13_oneDigit yX13_oneDigit, Cond.code yX13_oneDigit cX13_oneDigit 21 (some .int)]
def wsX13_solve_r6 : List Cond := [Cond.methodLink RX13 693 yX13_shiftDown, Cond.instanceMethod yX13_shiftDown, Cond.selects RX13 yX13_shiftDown yX13_shiftDown, Cond.code yX13_shiftDown cX13_shiftDown 5 none, Cond.methodLink RX13 730 yX13_keepIn, Cond.instanceMethod yX13_keepIn, Cond.selects RX13 yX13_keepIn yX13_keepIn, Cond.code yX13_keepIn cX13_keepIn 6 none, Cond.fieldLink RX13 192 "ChanceWorksModel" "slots" "[I", Cond.methodLink RX13 772 yX13_foldRing, Cond.instanceMethod yX13_foldRing, Cond.selects RX13 yX13_foldRing yX13_foldRing, Cond.code yX13_foldRing cX13_foldRing 4 none, Cond.methodLink RX13 762 yX13_clearSum, Cond.instanceMethod yX13_clearSum, Cond.selects RX13 yX13_clearSum yX13_clearSum, Cond.code yX13_clearSum cX13_clearSum 1 none, Cond.fieldLink RX13 710 "ChanceWorksModel" "sign" "I", Cond.methodLink RX13 724 yX13_load, Cond.instanceMethod yX13_load, Cond.selects RX13 yX13_load yX13_load, Cond.code yX13_load cX13_load 6 none, Cond.methodLink RX13 727 yX13_add, Cond.instanceMethod yX13_add]
def wsX13_solve_r7 : List Cond := [Cond.selects RX13 yX13_add yX13_add, Cond.code yX13_add cX13_add 2 none, Cond.methodLink RX13 712 yX13_times, Cond.instanceMethod yX13_times, Cond.selects RX13 yX13_times yX13_times, Cond.code yX13_times cX13_times 14 none, Cond.methodLink RX13 715 yX13_plus, Cond.instanceMethod yX13_plus, Cond.selects RX13 yX13_plus yX13_plus, Cond.code yX13_plus cX13_plus 7 none, Cond.methodLink RX13 718 yX13_minus, Cond.instanceMethod yX13_minus, Cond.selects RX13 yX13_minus yX13_minus, Cond.code yX13_minus cX13_minus 6 none, Cond.methodLink RX13 765 yX13_addProduct, Cond.instanceMethod yX13_addProduct, Cond.selects RX13 yX13_addProduct yX13_addProduct, Cond.code yX13_addProduct cX13_addProduct 5 none, Cond.methodLink RX13 775 yX13_visitFrom, Cond.instanceMethod yX13_visitFrom, Cond.selects RX13 yX13_visitFrom yX13_visitFrom, Cond.code yX13_visitFrom cX13_visitFrom 4 none, Cond.methodLink RX13 778 yX13_sumInflow, Cond.instanceMethod yX13_sumInflow]
def wsX13_solve_r8 : List Cond := [Cond.selects RX13 yX13_sumInflow yX13_sumInflow, Cond.code yX13_sumInflow cX13_sumInflow 5 none, Cond.methodLink RX13 737 yX13_loadVisits, Cond.instanceMethod yX13_loadVisits, Cond.selects RX13 yX13_loadVisits yX13_loadVisits, Cond.code yX13_loadVisits cX13_loadVisits 4 none, Cond.constant RX13 735 (240000), Cond.constant RX13 736 (280000), Cond.methodLink RX13 748 yX13_scale, Cond.instanceMethod yX13_scale, Cond.selects RX13 yX13_scale yX13_scale, Cond.code yX13_scale cX13_scale 5 none, Cond.methodLink RX13 752 yX13_takeTimes, Cond.instanceMethod yX13_takeTimes, Cond.selects RX13 yX13_takeTimes yX13_takeTimes, Cond.code yX13_takeTimes cX13_takeTimes 2 none, Cond.methodLink RX13 781 yX13_isLong, Cond.instanceMethod yX13_isLong, Cond.selects RX13 yX13_isLong yX13_isLong, Cond.code yX13_isLong cX13_isLong 2 (some .boolean)]
def wsX13_solve : List Cond := .code yX13_solve cX13_solve 4 (some .int) :: ((wsX13_solve_r1 ++ (wsX13_solve_r2 ++ (wsX13_solve_r3 ++ (wsX13_solve_r4 ++ (wsX13_solve_r5 ++ (wsX13_solve_r6 ++ (wsX13_solve_r7 ++ wsX13_solve_r8))))))) ++ wsX130 ++ (vx_atM "java/lang/ArrayIndexOutOfBoundsException" ["java/lang/IndexOutOfBoundsException", "java/lang/RuntimeException", "java/lang/Exception"]).filter goodWord)
def wsX13_isSlot : List Cond := .code yX13_isSlot cX13_isSlot 2 (some .boolean) :: ([])
def wsX13_sumWeights_r1 : List Cond := [Cond.fieldLink RX13 542 "ChanceWorksModel" "states" "I", Cond.fieldLink RX13 151 "ChanceWorksModel" "nextStarts" "[I", Cond.fieldLink RX13 148 "ChanceWorksModel" "endingRows" "[I", Cond.fieldLink RX13 157 "ChanceWorksModel" "nextNumbers" "[I", Cond.fieldLink RX13 195 "ChanceWorksModel" "isOpen" "[Z", Cond.methodLink RX13 762 yX13_clearSum, Cond.instanceMethod yX13_clearSum, Cond.selects RX13 yX13_clearSum yX13_clearSum, Cond.initialized RX13, Cond.code yX13_clearSum cX13_clearSum 1 none, Cond.fieldLink RX13 710 "ChanceWorksModel" "sign" "I", Cond.methodLink RX13 699 yX13_set, Cond.instanceMethod yX13_set, Cond.selects RX13 yX13_set yX13_set, Cond.code yX13_set cX13_set 7 none, Cond.fieldLink RX13 185 "ChanceWorksModel" "big" "[I", Cond.constant RX13 676 (40000), Cond.constantLong RX13 677 (65535), Cond.fieldLink RX13 188 "ChanceWorksModel" "lengths" "[I", Cond.methodLink RX13 793 yX13_isVisited, Cond.instanceMethod yX13_isVisited, Cond.selects RX13 yX13_isVisited yX13_isVisited, Cond.code yX13_isVisited cX13_isVisited 2 (some .boolean), Cond.fieldLink RX13 214 "ChanceWorksModel" "visits" "[I"]
def wsX13_sumWeights_r2 : List Cond := [Cond.methodLink RX13 640 yX13_isTaken, Cond.instanceMethod yX13_isTaken, Cond.selects RX13 yX13_isTaken yX13_isTaken, Cond.code yX13_isTaken cX13_isTaken 4 (some .boolean), Cond.fieldLink RX13 166 "ChanceWorksModel" "isChoice" "[Z", Cond.fieldLink RX13 172 "ChanceWorksModel" "plan" "[I", Cond.methodLink RX13 796 yX13_isMeant, Cond.instanceMethod yX13_isMeant, Cond.selects RX13 yX13_isMeant yX13_isMeant, Cond.code yX13_isMeant cX13_isMeant 6 (some .boolean), Cond.fieldLink RX13 154 "ChanceWorksModel" "nextKinds" "[I", Cond.methodLink RX13 799 yX13_addWeight, Cond.instanceMethod yX13_addWeight, Cond.selects RX13 yX13_addWeight yX13_addWeight, Cond.code yX13_addWeight cX13_addWeight 5 none, Cond.methodLink RX13 737 yX13_loadVisits, Cond.instanceMethod yX13_loadVisits, Cond.selects RX13 yX13_loadVisits yX13_loadVisits, Cond.code yX13_loadVisits cX13_loadVisits 4 none, Cond.constant RX13 735 (240000), Cond.constant RX13 736 (280000), Cond.methodLink RX13 740 yX13_weightOf, Cond.instanceMethod yX13_weightOf, Cond.selects RX13 yX13_weightOf yX13_weightOf]
def wsX13_sumWeights_r3 : List Cond := [Cond.code yX13_weightOf cX13_weightOf 3 (some .long), Cond.fieldLink RX13 160 "ChanceWorksModel" "nextWeights" "[I", Cond.methodLink RX13 744 yX13_totalOf, Cond.instanceMethod yX13_totalOf, Cond.selects RX13 yX13_totalOf yX13_totalOf, Cond.code yX13_totalOf cX13_totalOf 2 (some .long), Cond.fieldLink RX13 163 "ChanceWorksModel" "totals" "[I", Cond.methodLink RX13 748 yX13_scale, Cond.instanceMethod yX13_scale, Cond.selects RX13 yX13_scale yX13_scale, Cond.code yX13_scale cX13_scale 5 none, Cond.methodLink RX13 712 yX13_times, Cond.instanceMethod yX13_times, Cond.selects RX13 yX13_times yX13_times, Cond.code yX13_times cX13_times 14 none, Cond.methodLink RX13 680 yX13_trim, Cond.instanceMethod yX13_trim, Cond.selects RX13 yX13_trim yX13_trim, Cond.code yX13_trim cX13_trim 2 none, Cond.methodLink RX13 703 yX13_copy, Cond.instanceMethod yX13_copy, Cond.selects RX13 yX13_copy yX13_copy, Cond.code yX13_copy cX13_copy 4 none, Cond.methodLink RX13 721 yX13_reduce]
def wsX13_sumWeights_r4 : List Cond := [Cond.instanceMethod yX13_reduce, Cond.selects RX13 yX13_reduce yX13_reduce, Cond.code yX13_reduce cX13_reduce 4 none, Cond.methodLink RX13 696 yX13_isZero, Cond.instanceMethod yX13_isZero, Cond.selects RX13 yX13_isZero yX13_isZero, Cond.code yX13_isZero cX13_isZero 2 (some .boolean), Cond.methodLink RX13 706 yX13_divide, Cond.instanceMethod yX13_divide, Cond.selects RX13 yX13_divide yX13_divide, Cond.code yX13_divide cX13_divide 8 none, Cond.constant RX13 686 (32768), Cond.methodLink RX13 683 yX13_compare, Cond.instanceMethod yX13_compare, Cond.selects RX13 yX13_compare yX13_compare, Cond.code yX13_compare cX13_compare 5 (some .int), Cond.methodLink RX13 687 yX13_shiftUp, Cond.instanceMethod yX13_shiftUp, Cond.selects RX13 yX13_shiftUp yX13_shiftUp, Cond.code yX13_shiftUp cX13_shiftUp 6 none, Cond.constant RX13 679 (65535), Cond.methodLink RX13 690 yX13_oneDigit, Cond.instanceMethod yX13_oneDigit, Cond.selects RX13 yX13_oneDigit yX13_oneDigit]
def wsX13_sumWeights_r5 : List Cond := [Cond.code yX13_oneDigit cX13_oneDigit 21 (some .int), Cond.methodLink RX13 693 yX13_shiftDown, Cond.instanceMethod yX13_shiftDown, Cond.selects RX13 yX13_shiftDown yX13_shiftDown, Cond.code yX13_shiftDown cX13_shiftDown 5 none, Cond.methodLink RX13 727 yX13_add, Cond.instanceMethod yX13_add, Cond.selects RX13 yX13_add yX13_add, Cond.code yX13_add cX13_add 2 none, Cond.methodLink RX13 715 yX13_plus, Cond.instanceMethod yX13_plus, Cond.selects RX13 yX13_plus yX13_plus, Cond.code yX13_plus cX13_plus 7 none, Cond.methodLink RX13 718 yX13_minus, Cond.instanceMethod yX13_minus, Cond.selects RX13 yX13_minus yX13_minus, Cond.code yX13_minus cX13_minus 6 none]
def wsX13_sumWeights : List Cond := .code yX13_sumWeights cX13_sumWeights 6 none :: ((wsX13_sumWeights_r1 ++ (wsX13_sumWeights_r2 ++ (wsX13_sumWeights_r3 ++ (wsX13_sumWeights_r4 ++ wsX13_sumWeights_r5)))) ++ wsX130 ++ (vx_atM "java/lang/ArrayIndexOutOfBoundsException" ["java/lang/IndexOutOfBoundsException", "java/lang/RuntimeException", "java/lang/Exception"]).filter goodWord)
def wsX13_sumVisits_r1 : List Cond := [Cond.fieldLink RX13 542 "ChanceWorksModel" "states" "I", Cond.fieldLink RX13 169 "ChanceWorksModel" "gains" "[I", Cond.methodLink RX13 762 yX13_clearSum, Cond.instanceMethod yX13_clearSum, Cond.selects RX13 yX13_clearSum yX13_clearSum, Cond.initialized RX13, Cond.code yX13_clearSum cX13_clearSum 1 none, Cond.fieldLink RX13 710 "ChanceWorksModel" "sign" "I", Cond.methodLink RX13 699 yX13_set, Cond.instanceMethod yX13_set, Cond.selects RX13 yX13_set yX13_set, Cond.code yX13_set cX13_set 7 none, Cond.fieldLink RX13 185 "ChanceWorksModel" "big" "[I", Cond.constant RX13 676 (40000), Cond.constantLong RX13 677 (65535), Cond.fieldLink RX13 188 "ChanceWorksModel" "lengths" "[I", Cond.methodLink RX13 793 yX13_isVisited, Cond.instanceMethod yX13_isVisited, Cond.selects RX13 yX13_isVisited yX13_isVisited, Cond.code yX13_isVisited cX13_isVisited 2 (some .boolean), Cond.fieldLink RX13 195 "ChanceWorksModel" "isOpen" "[Z", Cond.fieldLink RX13 214 "ChanceWorksModel" "visits" "[I", Cond.methodLink RX13 737 yX13_loadVisits, Cond.instanceMethod yX13_loadVisits]
def wsX13_sumVisits_r2 : List Cond := [Cond.selects RX13 yX13_loadVisits yX13_loadVisits, Cond.code yX13_loadVisits cX13_loadVisits 4 none, Cond.constant RX13 735 (240000), Cond.constant RX13 736 (280000), Cond.methodLink RX13 748 yX13_scale, Cond.instanceMethod yX13_scale, Cond.selects RX13 yX13_scale yX13_scale, Cond.code yX13_scale cX13_scale 5 none, Cond.methodLink RX13 712 yX13_times, Cond.instanceMethod yX13_times, Cond.selects RX13 yX13_times yX13_times, Cond.code yX13_times cX13_times 14 none, Cond.methodLink RX13 680 yX13_trim, Cond.instanceMethod yX13_trim, Cond.selects RX13 yX13_trim yX13_trim, Cond.code yX13_trim cX13_trim 2 none, Cond.methodLink RX13 703 yX13_copy, Cond.instanceMethod yX13_copy, Cond.selects RX13 yX13_copy yX13_copy, Cond.code yX13_copy cX13_copy 4 none, Cond.methodLink RX13 721 yX13_reduce, Cond.instanceMethod yX13_reduce, Cond.selects RX13 yX13_reduce yX13_reduce, Cond.code yX13_reduce cX13_reduce 4 none]
def wsX13_sumVisits_r3 : List Cond := [Cond.methodLink RX13 696 yX13_isZero, Cond.instanceMethod yX13_isZero, Cond.selects RX13 yX13_isZero yX13_isZero, Cond.code yX13_isZero cX13_isZero 2 (some .boolean), Cond.methodLink RX13 706 yX13_divide, Cond.instanceMethod yX13_divide, Cond.selects RX13 yX13_divide yX13_divide, Cond.code yX13_divide cX13_divide 8 none, Cond.constant RX13 686 (32768), Cond.methodLink RX13 683 yX13_compare, Cond.instanceMethod yX13_compare, Cond.selects RX13 yX13_compare yX13_compare, Cond.code yX13_compare cX13_compare 5 (some .int), Cond.methodLink RX13 687 yX13_shiftUp, Cond.instanceMethod yX13_shiftUp, Cond.selects RX13 yX13_shiftUp yX13_shiftUp, Cond.code yX13_shiftUp cX13_shiftUp 6 none, Cond.constant RX13 679 (65535), Cond.methodLink RX13 690 yX13_oneDigit, Cond.instanceMethod yX13_oneDigit, Cond.selects RX13 yX13_oneDigit yX13_oneDigit, Cond.code yX13_oneDigit cX13_oneDigit 21 (some .int), Cond.methodLink RX13 693 yX13_shiftDown, Cond.instanceMethod yX13_shiftDown]
def wsX13_sumVisits_r4 : List Cond := [Cond.selects RX13 yX13_shiftDown yX13_shiftDown, Cond.code yX13_shiftDown cX13_shiftDown 5 none, Cond.methodLink RX13 727 yX13_add, Cond.instanceMethod yX13_add, Cond.selects RX13 yX13_add yX13_add, Cond.code yX13_add cX13_add 2 none, Cond.methodLink RX13 715 yX13_plus, Cond.instanceMethod yX13_plus, Cond.selects RX13 yX13_plus yX13_plus, Cond.code yX13_plus cX13_plus 7 none, Cond.methodLink RX13 718 yX13_minus, Cond.instanceMethod yX13_minus, Cond.selects RX13 yX13_minus yX13_minus, Cond.code yX13_minus cX13_minus 6 none]
def wsX13_sumVisits : List Cond := .code yX13_sumVisits cX13_sumVisits 5 none :: ((wsX13_sumVisits_r1 ++ (wsX13_sumVisits_r2 ++ (wsX13_sumVisits_r3 ++ wsX13_sumVisits_r4))) ++ wsX130 ++ (vx_atM "java/lang/ArrayIndexOutOfBoundsException" ["java/lang/IndexOutOfBoundsException", "java/lang/RuntimeException", "java/lang/Exception"]).filter goodWord)
def wsX13_sumOver_r1 : List Cond := [Cond.fieldLink RX13 710 "ChanceWorksModel" "sign" "I", Cond.methodLink RX13 803 yX13_sumWeights, Cond.instanceMethod yX13_sumWeights, Cond.selects RX13 yX13_sumWeights yX13_sumWeights, Cond.initialized RX13, Cond.code yX13_sumWeights cX13_sumWeights 6 none, Cond.fieldLink RX13 542 "ChanceWorksModel" "states" "I", Cond.fieldLink RX13 151 "ChanceWorksModel" "nextStarts" "[I", Cond.fieldLink RX13 148 "ChanceWorksModel" "endingRows" "[I", Cond.fieldLink RX13 157 "ChanceWorksModel" "nextNumbers" "[I", Cond.fieldLink RX13 195 "ChanceWorksModel" "isOpen" "[Z", Cond.methodLink RX13 762 yX13_clearSum, Cond.instanceMethod yX13_clearSum, Cond.selects RX13 yX13_clearSum yX13_clearSum, Cond.code yX13_clearSum cX13_clearSum 1 none, Cond.methodLink RX13 699 yX13_set, Cond.instanceMethod yX13_set, Cond.selects RX13 yX13_set yX13_set, Cond.code yX13_set cX13_set 7 none, Cond.fieldLink RX13 185 "ChanceWorksModel" "big" "[I", Cond.constant RX13 676 (40000), Cond.constantLong RX13 677 (65535), Cond.fieldLink RX13 188 "ChanceWorksModel" "lengths" "[I", Cond.methodLink RX13 793 yX13_isVisited]
def wsX13_sumOver_r2 : List Cond := [Cond.instanceMethod yX13_isVisited, Cond.selects RX13 yX13_isVisited yX13_isVisited, Cond.code yX13_isVisited cX13_isVisited 2 (some .boolean), Cond.fieldLink RX13 214 "ChanceWorksModel" "visits" "[I", Cond.methodLink RX13 640 yX13_isTaken, Cond.instanceMethod yX13_isTaken, Cond.selects RX13 yX13_isTaken yX13_isTaken, Cond.code yX13_isTaken cX13_isTaken 4 (some .boolean), Cond.fieldLink RX13 166 "ChanceWorksModel" "isChoice" "[Z", Cond.fieldLink RX13 172 "ChanceWorksModel" "plan" "[I", Cond.methodLink RX13 796 yX13_isMeant, Cond.instanceMethod yX13_isMeant, Cond.selects RX13 yX13_isMeant yX13_isMeant, Cond.code yX13_isMeant cX13_isMeant 6 (some .boolean), Cond.fieldLink RX13 154 "ChanceWorksModel" "nextKinds" "[I", Cond.methodLink RX13 799 yX13_addWeight, Cond.instanceMethod yX13_addWeight, Cond.selects RX13 yX13_addWeight yX13_addWeight, Cond.code yX13_addWeight cX13_addWeight 5 none, Cond.methodLink RX13 737 yX13_loadVisits, Cond.instanceMethod yX13_loadVisits, Cond.selects RX13 yX13_loadVisits yX13_loadVisits, Cond.code yX13_loadVisits cX13_loadVisits 4 none, Cond.constant RX13 735 (240000)]
def wsX13_sumOver_r3 : List Cond := [Cond.constant RX13 736 (280000), Cond.methodLink RX13 740 yX13_weightOf, Cond.instanceMethod yX13_weightOf, Cond.selects RX13 yX13_weightOf yX13_weightOf, Cond.code yX13_weightOf cX13_weightOf 3 (some .long), Cond.fieldLink RX13 160 "ChanceWorksModel" "nextWeights" "[I", Cond.methodLink RX13 744 yX13_totalOf, Cond.instanceMethod yX13_totalOf, Cond.selects RX13 yX13_totalOf yX13_totalOf, Cond.code yX13_totalOf cX13_totalOf 2 (some .long), Cond.fieldLink RX13 163 "ChanceWorksModel" "totals" "[I", Cond.methodLink RX13 748 yX13_scale, Cond.instanceMethod yX13_scale, Cond.selects RX13 yX13_scale yX13_scale, Cond.code yX13_scale cX13_scale 5 none, Cond.methodLink RX13 712 yX13_times, Cond.instanceMethod yX13_times, Cond.selects RX13 yX13_times yX13_times, Cond.code yX13_times cX13_times 14 none, Cond.methodLink RX13 680 yX13_trim, Cond.instanceMethod yX13_trim, Cond.selects RX13 yX13_trim yX13_trim, Cond.code yX13_trim cX13_trim 2 none, Cond.methodLink RX13 703 yX13_copy]
def wsX13_sumOver_r4 : List Cond := [Cond.instanceMethod yX13_copy, Cond.selects RX13 yX13_copy yX13_copy, Cond.code yX13_copy cX13_copy 4 none, Cond.methodLink RX13 721 yX13_reduce, Cond.instanceMethod yX13_reduce, Cond.selects RX13 yX13_reduce yX13_reduce, Cond.code yX13_reduce cX13_reduce 4 none, Cond.methodLink RX13 696 yX13_isZero, Cond.instanceMethod yX13_isZero, Cond.selects RX13 yX13_isZero yX13_isZero, Cond.code yX13_isZero cX13_isZero 2 (some .boolean), Cond.methodLink RX13 706 yX13_divide, Cond.instanceMethod yX13_divide, Cond.selects RX13 yX13_divide yX13_divide, Cond.code yX13_divide cX13_divide 8 none, Cond.constant RX13 686 (32768), Cond.methodLink RX13 683 yX13_compare, Cond.instanceMethod yX13_compare, Cond.selects RX13 yX13_compare yX13_compare, Cond.code yX13_compare cX13_compare 5 (some .int), Cond.methodLink RX13 687 yX13_shiftUp, Cond.instanceMethod yX13_shiftUp, Cond.selects RX13 yX13_shiftUp yX13_shiftUp, Cond.code yX13_shiftUp cX13_shiftUp 6 none]
def wsX13_sumOver_r5 : List Cond := [Cond.constant RX13 679 (65535), Cond.methodLink RX13 690 yX13_oneDigit, Cond.instanceMethod yX13_oneDigit, Cond.selects RX13 yX13_oneDigit yX13_oneDigit, Cond.code yX13_oneDigit cX13_oneDigit 21 (some .int), Cond.methodLink RX13 693 yX13_shiftDown, Cond.instanceMethod yX13_shiftDown, Cond.selects RX13 yX13_shiftDown yX13_shiftDown, Cond.code yX13_shiftDown cX13_shiftDown 5 none, Cond.methodLink RX13 727 yX13_add, Cond.instanceMethod yX13_add, Cond.selects RX13 yX13_add yX13_add, Cond.code yX13_add cX13_add 2 none, Cond.methodLink RX13 715 yX13_plus, Cond.instanceMethod yX13_plus, Cond.selects RX13 yX13_plus yX13_plus, Cond.code yX13_plus cX13_plus 7 none, Cond.methodLink RX13 718 yX13_minus, Cond.instanceMethod yX13_minus, Cond.selects RX13 yX13_minus yX13_minus, Cond.code yX13_minus cX13_minus 6 none]
def wsX13_sumOver : List Cond := .code yX13_sumOver cX13_sumOver 6 none :: ((wsX13_sumOver_r1 ++ (wsX13_sumOver_r2 ++ (wsX13_sumOver_r3 ++ (wsX13_sumOver_r4 ++ wsX13_sumOver_r5)))) ++ wsX130 ++ (vx_atM "java/lang/ArrayIndexOutOfBoundsException" ["java/lang/IndexOutOfBoundsException", "java/lang/RuntimeException", "java/lang/Exception"]).filter goodWord)
def wsX13_loadWorth : List Cond := .code yX13_loadWorth cX13_loadWorth 5 none :: ([.fieldLink RX13 188 "ChanceWorksModel" "lengths" "[I", .fieldLink RX13 185 "ChanceWorksModel" "big" "[I", .constant RX13 735 (240000), .constant RX13 736 (280000)] ++ wsX130 ++ (vx_atM "java/lang/ArrayIndexOutOfBoundsException" ["java/lang/IndexOutOfBoundsException", "java/lang/RuntimeException", "java/lang/Exception"]).filter goodWord)
def wsX13_show_r1 : List Cond := [Cond.fieldLink RX13 536 "ChanceWorksModel" "isSolved" "Z", Cond.fieldLink RX13 539 "ChanceWorksModel" "isBest" "Z", Cond.fieldLink RX13 220 "ChanceWorksModel" "howPlayed" "I", Cond.fieldLink RX13 1 "ChanceWorksModel" "code" "I", Cond.fieldLink RX13 545 "ChanceWorksModel" "endings" "I", Cond.fieldLink RX13 542 "ChanceWorksModel" "states" "I", Cond.fieldLink RX13 226 "ChanceWorksModel" "worths" "[I", Cond.fieldLink RX13 229 "ChanceWorksModel" "worthSigns" "[I", Cond.fieldLink RX13 710 "ChanceWorksModel" "sign" "I", Cond.fieldLink RX13 821 "ChanceWorksModel" "isShown" "Z", Cond.methodLink RX13 362 yX13_within, Cond.static yX13_within, Cond.initialized RX13, Cond.code yX13_within cX13_within 3 (some .boolean), Cond.methodLink RX13 803 yX13_sumWeights, Cond.instanceMethod yX13_sumWeights, Cond.selects RX13 yX13_sumWeights yX13_sumWeights, Cond.code yX13_sumWeights cX13_sumWeights 6 none, Cond.fieldLink RX13 151 "ChanceWorksModel" "nextStarts" "[I", Cond.fieldLink RX13 148 "ChanceWorksModel" "endingRows" "[I", Cond.fieldLink RX13 157 "ChanceWorksModel" "nextNumbers" "[I", Cond.fieldLink RX13 195 "ChanceWorksModel" "isOpen" "[Z", Cond.methodLink RX13 762 yX13_clearSum, Cond.instanceMethod yX13_clearSum]
def wsX13_show_r2 : List Cond := [Cond.selects RX13 yX13_clearSum yX13_clearSum, Cond.code yX13_clearSum cX13_clearSum 1 none, Cond.methodLink RX13 699 yX13_set, Cond.instanceMethod yX13_set, Cond.selects RX13 yX13_set yX13_set, Cond.code yX13_set cX13_set 7 none, Cond.fieldLink RX13 185 "ChanceWorksModel" "big" "[I", Cond.constant RX13 676 (40000), Cond.constantLong RX13 677 (65535), Cond.fieldLink RX13 188 "ChanceWorksModel" "lengths" "[I", Cond.methodLink RX13 793 yX13_isVisited, Cond.instanceMethod yX13_isVisited, Cond.selects RX13 yX13_isVisited yX13_isVisited, Cond.code yX13_isVisited cX13_isVisited 2 (some .boolean), Cond.fieldLink RX13 214 "ChanceWorksModel" "visits" "[I", Cond.methodLink RX13 640 yX13_isTaken, Cond.instanceMethod yX13_isTaken, Cond.selects RX13 yX13_isTaken yX13_isTaken, Cond.code yX13_isTaken cX13_isTaken 4 (some .boolean), Cond.fieldLink RX13 166 "ChanceWorksModel" "isChoice" "[Z", Cond.fieldLink RX13 172 "ChanceWorksModel" "plan" "[I", Cond.methodLink RX13 796 yX13_isMeant, Cond.instanceMethod yX13_isMeant, Cond.selects RX13 yX13_isMeant yX13_isMeant]
def wsX13_show_r3 : List Cond := [Cond.code yX13_isMeant cX13_isMeant 6 (some .boolean), Cond.fieldLink RX13 154 "ChanceWorksModel" "nextKinds" "[I", Cond.methodLink RX13 799 yX13_addWeight, Cond.instanceMethod yX13_addWeight, Cond.selects RX13 yX13_addWeight yX13_addWeight, Cond.code yX13_addWeight cX13_addWeight 5 none, Cond.methodLink RX13 737 yX13_loadVisits, Cond.instanceMethod yX13_loadVisits, Cond.selects RX13 yX13_loadVisits yX13_loadVisits, Cond.code yX13_loadVisits cX13_loadVisits 4 none, Cond.constant RX13 735 (240000), Cond.constant RX13 736 (280000), Cond.methodLink RX13 740 yX13_weightOf, Cond.instanceMethod yX13_weightOf, Cond.selects RX13 yX13_weightOf yX13_weightOf, Cond.code yX13_weightOf cX13_weightOf 3 (some .long), Cond.fieldLink RX13 160 "ChanceWorksModel" "nextWeights" "[I", Cond.methodLink RX13 744 yX13_totalOf, Cond.instanceMethod yX13_totalOf, Cond.selects RX13 yX13_totalOf yX13_totalOf, Cond.code yX13_totalOf cX13_totalOf 2 (some .long), Cond.fieldLink RX13 163 "ChanceWorksModel" "totals" "[I", Cond.methodLink RX13 748 yX13_scale, Cond.instanceMethod yX13_scale]
def wsX13_show_r4 : List Cond := [Cond.selects RX13 yX13_scale yX13_scale, Cond.code yX13_scale cX13_scale 5 none, Cond.methodLink RX13 712 yX13_times, Cond.instanceMethod yX13_times, Cond.selects RX13 yX13_times yX13_times, Cond.code yX13_times cX13_times 14 none, Cond.methodLink RX13 680 yX13_trim, Cond.instanceMethod yX13_trim, Cond.selects RX13 yX13_trim yX13_trim, Cond.code yX13_trim cX13_trim 2 none, Cond.methodLink RX13 703 yX13_copy, Cond.instanceMethod yX13_copy, Cond.selects RX13 yX13_copy yX13_copy, Cond.code yX13_copy cX13_copy 4 none, Cond.methodLink RX13 721 yX13_reduce, Cond.instanceMethod yX13_reduce, Cond.selects RX13 yX13_reduce yX13_reduce, Cond.code yX13_reduce cX13_reduce 4 none, Cond.methodLink RX13 696 yX13_isZero, Cond.instanceMethod yX13_isZero, Cond.selects RX13 yX13_isZero yX13_isZero, Cond.code yX13_isZero cX13_isZero 2 (some .boolean), Cond.methodLink RX13 706 yX13_divide, Cond.instanceMethod yX13_divide]
def wsX13_show_r5 : List Cond := [Cond.selects RX13 yX13_divide yX13_divide, Cond.code yX13_divide cX13_divide 8 none, Cond.constant RX13 686 (32768), Cond.methodLink RX13 683 yX13_compare, Cond.instanceMethod yX13_compare, Cond.selects RX13 yX13_compare yX13_compare, Cond.code yX13_compare cX13_compare 5 (some .int), Cond.methodLink RX13 687 yX13_shiftUp, Cond.instanceMethod yX13_shiftUp, Cond.selects RX13 yX13_shiftUp yX13_shiftUp, Cond.code yX13_shiftUp cX13_shiftUp 6 none, Cond.constant RX13 679 (65535), Cond.methodLink RX13 690 yX13_oneDigit, Cond.instanceMethod yX13_oneDigit, Cond.selects RX13 yX13_oneDigit yX13_oneDigit, Cond.code yX13_oneDigit cX13_oneDigit 21 (some .int), Cond.methodLink RX13 693 yX13_shiftDown, Cond.instanceMethod yX13_shiftDown, Cond.selects RX13 yX13_shiftDown yX13_shiftDown, Cond.code yX13_shiftDown cX13_shiftDown 5 none, Cond.methodLink RX13 727 yX13_add, Cond.instanceMethod yX13_add, Cond.selects RX13 yX13_add yX13_add, Cond.code yX13_add cX13_add 2 none]
def wsX13_show_r6 : List Cond := [Cond.methodLink RX13 715 yX13_plus, Cond.instanceMethod yX13_plus, Cond.selects RX13 yX13_plus yX13_plus, Cond.code yX13_plus cX13_plus 7 none, Cond.methodLink RX13 718 yX13_minus, Cond.instanceMethod yX13_minus, Cond.selects RX13 yX13_minus yX13_minus, Cond.code yX13_minus cX13_minus 6 none, Cond.methodLink RX13 807 yX13_isSlot, Cond.static yX13_isSlot, Cond.code yX13_isSlot cX13_isSlot 2 (some .boolean), Cond.methodLink RX13 810 yX13_sumOver, Cond.instanceMethod yX13_sumOver, Cond.selects RX13 yX13_sumOver yX13_sumOver, Cond.code yX13_sumOver cX13_sumOver 6 none, Cond.methodLink RX13 814 yX13_sumVisits, Cond.instanceMethod yX13_sumVisits, Cond.selects RX13 yX13_sumVisits yX13_sumVisits, Cond.code yX13_sumVisits cX13_sumVisits 5 none, Cond.fieldLink RX13 169 "ChanceWorksModel" "gains" "[I", Cond.methodLink RX13 817 yX13_loadWorth, Cond.instanceMethod yX13_loadWorth, Cond.selects RX13 yX13_loadWorth yX13_loadWorth, Cond.code yX13_loadWorth cX13_loadWorth 5 none]
def wsX13_show : List Cond := .code yX13_show cX13_show 3 (some .int) :: ((wsX13_show_r1 ++ (wsX13_show_r2 ++ (wsX13_show_r3 ++ (wsX13_show_r4 ++ (wsX13_show_r5 ++ wsX13_show_r6))))) ++ wsX130 ++ (vx_atM "java/lang/ArrayIndexOutOfBoundsException" ["java/lang/IndexOutOfBoundsException", "java/lang/RuntimeException", "java/lang/Exception"]).filter goodWord)
def wsX13_tell : List Cond := .code yX13_tell cX13_tell 2 (some .int) :: ([.fieldLink RX13 827 "ChanceWorksModel" "toldCount" "I", .fieldLink RX13 1 "ChanceWorksModel" "code" "I", .fieldLink RX13 217 "ChanceWorksModel" "toldDraws" "[I"] ++ wsX130 ++ (vx_atM "java/lang/ArrayIndexOutOfBoundsException" ["java/lang/IndexOutOfBoundsException", "java/lang/RuntimeException", "java/lang/Exception"]).filter goodWord)
def wsX13_forget : List Cond := .code yX13_forget cX13_forget 2 (some .int) :: ([.fieldLink RX13 1 "ChanceWorksModel" "code" "I", .fieldLink RX13 827 "ChanceWorksModel" "toldCount" "I"] ++ wsX130)
def wsX13_draws_r1 : List Cond := [Cond.fieldLink RX13 847 "ChanceWorksModel" "playedSteps" "I", Cond.fieldLink RX13 833 "ChanceWorksModel" "playedDraws" "I", Cond.fieldLink RX13 134 "ChanceWorksModel" "outWeights" "[I", Cond.fieldLink RX13 581 "ChanceWorksModel" "outTotal" "I", Cond.methodLink RX13 844 yX13_drawn, Cond.instanceMethod yX13_drawn, Cond.selects RX13 yX13_drawn yX13_drawn, Cond.initialized RX13, Cond.code yX13_drawn cX13_drawn 6 (some .int), Cond.fieldLink RX13 830 "ChanceWorksModel" "bySeed" "Z", Cond.fieldLink RX13 827 "ChanceWorksModel" "toldCount" "I", Cond.fieldLink RX13 217 "ChanceWorksModel" "toldDraws" "[I", Cond.fieldLink RX13 575 "ChanceWorksModel" "outcomes" "I", Cond.fieldLink RX13 836 "ChanceWorksModel" "seed" "J", Cond.constantLong RX13 840 (6364136223846793005), Cond.constantLong RX13 842 (1442695040888963407), Cond.methodLink RX13 807 yX13_isSlot, Cond.static yX13_isSlot, Cond.code yX13_isSlot cX13_isSlot 2 (some .boolean), Cond.methodLink RX13 572 yX13_fail, Cond.instanceMethod yX13_fail, Cond.selects RX13 yX13_fail yX13_fail, Cond.code yX13_fail cX13_fail 2 (some .int), Cond.fieldLink RX13 554 "ChanceWorksModel" "ended" "I"]
def wsX13_draws_r2 : List Cond := [Cond.methodLink RX13 699 yX13_set, Cond.instanceMethod yX13_set, Cond.selects RX13 yX13_set yX13_set, Cond.code yX13_set cX13_set 7 none, Cond.fieldLink RX13 185 "ChanceWorksModel" "big" "[I", Cond.constant RX13 676 (40000), Cond.constantLong RX13 677 (65535), Cond.fieldLink RX13 188 "ChanceWorksModel" "lengths" "[I", Cond.methodLink RX13 712 yX13_times, Cond.instanceMethod yX13_times, Cond.selects RX13 yX13_times yX13_times, Cond.code yX13_times cX13_times 14 none, Cond.methodLink RX13 680 yX13_trim, Cond.instanceMethod yX13_trim, Cond.selects RX13 yX13_trim yX13_trim, Cond.code yX13_trim cX13_trim 2 none, Cond.methodLink RX13 703 yX13_copy, Cond.instanceMethod yX13_copy, Cond.selects RX13 yX13_copy yX13_copy, Cond.code yX13_copy cX13_copy 4 none, Cond.methodLink RX13 628 yX13_get, Cond.instanceMethod yX13_get, Cond.selects RX13 yX13_get yX13_get, Cond.code yX13_get cX13_get 2 (some .int)]
def wsX13_draws_r3 : List Cond := [Cond.fieldLink RX13 566 "ChanceWorksModel" "place" "I", Cond.fieldLink RX13 131 "ChanceWorksModel" "outValues" "[I", Cond.fieldLink RX13 87 "ChanceWorksModel" "follows" "[I", Cond.fieldLink RX13 125 "ChanceWorksModel" "ats" "[I", Cond.fieldLink RX13 551 "ChanceWorksModel" "calls" "I", Cond.methodLink RX13 557 yX13_store, Cond.instanceMethod yX13_store, Cond.selects RX13 yX13_store yX13_store, Cond.code yX13_store cX13_store 3 none, Cond.fieldLink RX13 122 "ChanceWorksModel" "globals" "[I", Cond.fieldLink RX13 128 "ChanceWorksModel" "callVars" "[I", Cond.methodLink RX13 563 yX13_moveTo, Cond.instanceMethod yX13_moveTo, Cond.selects RX13 yX13_moveTo yX13_moveTo, Cond.code yX13_moveTo cX13_moveTo 2 (some .int), Cond.methodLink RX13 560 yX13_leave, Cond.instanceMethod yX13_leave, Cond.selects RX13 yX13_leave yX13_leave, Cond.code yX13_leave cX13_leave 4 (some .int), Cond.fieldLink RX13 69 "ChanceWorksModel" "begins" "[I", Cond.fieldLink RX13 72 "ChanceWorksModel" "expressions" "[I", Cond.fieldLink RX13 93 "ChanceWorksModel" "refs" "[I"]
def wsX13_draws : List Cond := .code yX13_draws cX13_draws 2 (some .int) :: ((wsX13_draws_r1 ++ (wsX13_draws_r2 ++ wsX13_draws_r3)) ++ wsX130 ++ (vx_atM "java/lang/ArrayIndexOutOfBoundsException" ["java/lang/IndexOutOfBoundsException", "java/lang/RuntimeException", "java/lang/Exception"]).filter goodWord)
def wsX13_chooses_r1 : List Cond := [Cond.fieldLink RX13 533 "ChanceWorksModel" "isExplored" "Z", Cond.fieldLink RX13 172 "ChanceWorksModel" "plan" "[I", Cond.methodLink RX13 606 yX13_stateNow, Cond.instanceMethod yX13_stateNow, Cond.selects RX13 yX13_stateNow yX13_stateNow, Cond.initialized RX13, Cond.code yX13_stateNow cX13_stateNow 3 (some .int), Cond.fieldLink RX13 542 "ChanceWorksModel" "states" "I", Cond.fieldLink RX13 144 "ChanceWorksModel" "hashes" "[I", Cond.methodLink RX13 600 yX13_pack, Cond.instanceMethod yX13_pack, Cond.selects RX13 yX13_pack yX13_pack, Cond.code yX13_pack cX13_pack 3 (some .int), Cond.fieldLink RX13 175 "ChanceWorksModel" "key" "[I", Cond.fieldLink RX13 551 "ChanceWorksModel" "calls" "I", Cond.fieldLink RX13 122 "ChanceWorksModel" "globals" "[I", Cond.fieldLink RX13 125 "ChanceWorksModel" "ats" "[I", Cond.fieldLink RX13 128 "ChanceWorksModel" "callVars" "[I", Cond.methodLink RX13 603 yX13_isKey, Cond.instanceMethod yX13_isKey, Cond.selects RX13 yX13_isKey yX13_isKey, Cond.code yX13_isKey cX13_isKey 4 (some .boolean), Cond.fieldLink RX13 141 "ChanceWorksModel" "stateRows" "[I", Cond.methodLink RX13 628 yX13_get]
def wsX13_chooses_r2 : List Cond := [Cond.instanceMethod yX13_get, Cond.selects RX13 yX13_get yX13_get, Cond.code yX13_get cX13_get 2 (some .int), Cond.fieldLink RX13 566 "ChanceWorksModel" "place" "I", Cond.fieldLink RX13 131 "ChanceWorksModel" "outValues" "[I", Cond.fieldLink RX13 87 "ChanceWorksModel" "follows" "[I", Cond.methodLink RX13 557 yX13_store, Cond.instanceMethod yX13_store, Cond.selects RX13 yX13_store yX13_store, Cond.code yX13_store cX13_store 3 none, Cond.methodLink RX13 563 yX13_moveTo, Cond.instanceMethod yX13_moveTo, Cond.selects RX13 yX13_moveTo yX13_moveTo, Cond.code yX13_moveTo cX13_moveTo 2 (some .int), Cond.methodLink RX13 560 yX13_leave, Cond.instanceMethod yX13_leave, Cond.selects RX13 yX13_leave yX13_leave, Cond.code yX13_leave cX13_leave 4 (some .int), Cond.fieldLink RX13 554 "ChanceWorksModel" "ended" "I", Cond.fieldLink RX13 69 "ChanceWorksModel" "begins" "[I", Cond.fieldLink RX13 72 "ChanceWorksModel" "expressions" "[I", Cond.fieldLink RX13 93 "ChanceWorksModel" "refs" "[I"]
def wsX13_chooses : List Cond := .code yX13_chooses cX13_chooses 2 (some .int) :: ((wsX13_chooses_r1 ++ wsX13_chooses_r2) ++ wsX130 ++ (vx_atM "java/lang/ArrayIndexOutOfBoundsException" ["java/lang/IndexOutOfBoundsException", "java/lang/RuntimeException", "java/lang/Exception"]).filter goodWord)
def wsX13_go__r1 : List Cond := [Cond.fieldLink RX13 529 "ChanceWorksModel" "stands" "Z", Cond.fieldLink RX13 1 "ChanceWorksModel" "code" "I", Cond.fieldLink RX13 847 "ChanceWorksModel" "playedSteps" "I", Cond.fieldLink RX13 833 "ChanceWorksModel" "playedDraws" "I", Cond.fieldLink RX13 850 "ChanceWorksModel" "playedGain" "J", Cond.fieldLink RX13 585 "ChanceWorksModel" "gained" "I", Cond.fieldLink RX13 220 "ChanceWorksModel" "howPlayed" "I", Cond.fieldLink RX13 554 "ChanceWorksModel" "ended" "I", Cond.fieldLink RX13 859 "ChanceWorksModel" "playedNumber" "I", Cond.fieldLink RX13 223 "ChanceWorksModel" "playedGlobals" "[I", Cond.fieldLink RX13 122 "ChanceWorksModel" "globals" "[I", Cond.methodLink RX13 362 yX13_within, Cond.static yX13_within, Cond.initialized RX13, Cond.code yX13_within cX13_within 3 (some .boolean), Cond.methodLink RX13 699 yX13_set, Cond.instanceMethod yX13_set, Cond.selects RX13 yX13_set yX13_set, Cond.code yX13_set cX13_set 7 none, Cond.fieldLink RX13 185 "ChanceWorksModel" "big" "[I", Cond.constant RX13 676 (40000), Cond.constantLong RX13 677 (65535), Cond.fieldLink RX13 188 "ChanceWorksModel" "lengths" "[I", Cond.methodLink RX13 631 yX13_begin]
def wsX13_go__r2 : List Cond := [Cond.instanceMethod yX13_begin, Cond.selects RX13 yX13_begin yX13_begin, Cond.code yX13_begin cX13_begin 2 (some .int), Cond.fieldLink RX13 333 "ChanceWorksModel" "vars" "I", Cond.fieldLink RX13 39 "ChanceWorksModel" "varValues" "[I", Cond.fieldLink RX13 551 "ChanceWorksModel" "calls" "I", Cond.fieldLink RX13 128 "ChanceWorksModel" "callVars" "[I", Cond.fieldLink RX13 63 "ChanceWorksModel" "firstOf" "[I", Cond.fieldLink RX13 487 "ChanceWorksModel" "main" "I", Cond.methodLink RX13 563 yX13_moveTo, Cond.instanceMethod yX13_moveTo, Cond.selects RX13 yX13_moveTo yX13_moveTo, Cond.code yX13_moveTo cX13_moveTo 2 (some .int), Cond.fieldLink RX13 125 "ChanceWorksModel" "ats" "[I", Cond.methodLink RX13 560 yX13_leave, Cond.instanceMethod yX13_leave, Cond.selects RX13 yX13_leave yX13_leave, Cond.code yX13_leave cX13_leave 4 (some .int), Cond.fieldLink RX13 69 "ChanceWorksModel" "begins" "[I", Cond.fieldLink RX13 72 "ChanceWorksModel" "expressions" "[I", Cond.fieldLink RX13 93 "ChanceWorksModel" "refs" "[I", Cond.fieldLink RX13 87 "ChanceWorksModel" "follows" "[I", Cond.methodLink RX13 557 yX13_store, Cond.instanceMethod yX13_store]
def wsX13_go__r3 : List Cond := [Cond.selects RX13 yX13_store yX13_store, Cond.code yX13_store cX13_store 3 none, Cond.methodLink RX13 621 yX13_act, Cond.instanceMethod yX13_act, Cond.selects RX13 yX13_act yX13_act, Cond.code yX13_act cX13_act 4 (some .int), Cond.fieldLink RX13 300 "ChanceWorksModel" "fault" "I", Cond.fieldLink RX13 322 "ChanceWorksModel" "openCount" "I", Cond.fieldLink RX13 428 "ChanceWorksModel" "failure" "I", Cond.fieldLink RX13 438 "ChanceWorksModel" "mode" "I", Cond.fieldLink RX13 66 "ChanceWorksModel" "kinds" "[I", Cond.fieldLink RX13 75 "ChanceWorksModel" "bodies" "[I", Cond.fieldLink RX13 78 "ChanceWorksModel" "elses" "[I", Cond.fieldLink RX13 566 "ChanceWorksModel" "place" "I", Cond.methodLink RX13 588 yX13_call, Cond.instanceMethod yX13_call, Cond.selects RX13 yX13_call yX13_call, Cond.code yX13_call cX13_call 5 (some .int), Cond.fieldLink RX13 306 "ChanceWorksModel" "at" "I", Cond.fieldLink RX13 54 "ChanceWorksModel" "givens" "[I", Cond.fieldLink RX13 137 "ChanceWorksModel" "given" "[I", Cond.methodLink RX13 403 yX13_expression, Cond.instanceMethod yX13_expression, Cond.selects RX13 yX13_expression yX13_expression]
def wsX13_go__r4 : List Cond := [Cond.code yX13_expression cX13_expression 2 (some .int), Cond.fieldLink RX13 425 "ChanceWorksModel" "waiting" "I", Cond.fieldLink RX13 435 "ChanceWorksModel" "values" "I", Cond.fieldLink RX13 113 "ChanceWorksModel" "piles" "[I", Cond.methodLink RX13 448 yX13_goesOn, Cond.instanceMethod yX13_goesOn, Cond.selects RX13 yX13_goesOn yX13_goesOn, Cond.code yX13_goesOn cX13_goesOn 1 (some .boolean), Cond.methodLink RX13 325 yX13_isRight, Cond.instanceMethod yX13_isRight, Cond.selects RX13 yX13_isRight yX13_isRight, Cond.code yX13_isRight cX13_isRight 1 (some .boolean), Cond.methodLink RX13 478 yX13_operand, Cond.instanceMethod yX13_operand, Cond.selects RX13 yX13_operand yX13_operand, Cond.code yX13_operand cX13_operand 2 (some .boolean), Cond.fieldLink RX13 19 "ChanceWorksModel" "sorts" "[B", Cond.fieldLink RX13 26 "ChanceWorksModel" "numbers" "[I", Cond.methodLink RX13 316 yX13_isAt, Cond.instanceMethod yX13_isAt, Cond.selects RX13 yX13_isAt yX13_isAt, Cond.code yX13_isAt cX13_isAt 2 (some .boolean), Cond.methodLink RX13 460 yX13_hold, Cond.instanceMethod yX13_hold]
def wsX13_go__r5 : List Cond := [Cond.selects RX13 yX13_hold yX13_hold, Cond.code yX13_hold cX13_hold 3 none, Cond.fieldLink RX13 107 "ChanceWorksModel" "waits" "[I", Cond.fieldLink RX13 110 "ChanceWorksModel" "waitRefs" "[I", Cond.methodLink RX13 319 yX13_go, Cond.instanceMethod yX13_go, Cond.selects RX13 yX13_go yX13_go, Cond.code yX13_go cX13_go 1 none, Cond.methodLink RX13 309 yX13_readNext, Cond.instanceMethod yX13_readNext, Cond.selects RX13 yX13_readNext yX13_readNext, Cond.code yX13_readNext cX13_readNext 1 none, Cond.methodLink RX13 312 yX13_flaw, Cond.instanceMethod yX13_flaw, Cond.selects RX13 yX13_flaw yX13_flaw, Cond.code yX13_flaw cX13_flaw 3 none, Cond.fieldLink RX13 22 "ChanceWorksModel" "places" "[I", Cond.fieldLink RX13 303 "ChanceWorksModel" "faultPlace" "I", Cond.methodLink RX13 359 yX13_open, Cond.instanceMethod yX13_open, Cond.selects RX13 yX13_open yX13_open, Cond.code yX13_open cX13_open 2 none, Cond.methodLink RX13 463 yX13_push, Cond.instanceMethod yX13_push]
def wsX13_go__r6 : List Cond := [Cond.selects RX13 yX13_push yX13_push, Cond.code yX13_push cX13_push 2 none, Cond.methodLink RX13 457 yX13_turn, Cond.instanceMethod yX13_turn, Cond.selects RX13 yX13_turn yX13_turn, Cond.code yX13_turn cX13_turn 2 none, Cond.methodLink RX13 451 yX13_top, Cond.instanceMethod yX13_top, Cond.selects RX13 yX13_top yX13_top, Cond.code yX13_top cX13_top 1 (some .int), Cond.methodLink RX13 431 yX13_truth, Cond.static yX13_truth, Cond.code yX13_truth cX13_truth 1 (some .int), Cond.methodLink RX13 466 yX13_named, Cond.instanceMethod yX13_named, Cond.selects RX13 yX13_named yX13_named, Cond.code yX13_named cX13_named 3 (some .boolean), Cond.methodLink RX13 410 yX13_arrayOf, Cond.instanceMethod yX13_arrayOf, Cond.selects RX13 yX13_arrayOf yX13_arrayOf, Cond.code yX13_arrayOf cX13_arrayOf 3 (some .int), Cond.fieldLink RX13 340 "ChanceWorksModel" "arrs" "I", Cond.fieldLink RX13 42 "ChanceWorksModel" "arrTokens" "[I", Cond.methodLink RX13 336 yX13_isSame]
def wsX13_go__r7 : List Cond := [Cond.instanceMethod yX13_isSame, Cond.selects RX13 yX13_isSame yX13_isSame, Cond.code yX13_isSame cX13_isSame 3 (some .boolean), Cond.fieldLink RX13 29 "ChanceWorksModel" "firsts" "[J", Cond.fieldLink RX13 33 "ChanceWorksModel" "seconds" "[I", Cond.methodLink RX13 413 yX13_variableOf, Cond.instanceMethod yX13_variableOf, Cond.selects RX13 yX13_variableOf yX13_variableOf, Cond.code yX13_variableOf cX13_variableOf 3 (some .int), Cond.fieldLink RX13 57 "ChanceWorksModel" "variables" "[I", Cond.fieldLink RX13 346 "ChanceWorksModel" "function" "I", Cond.fieldLink RX13 60 "ChanceWorksModel" "variableTokens" "[I", Cond.fieldLink RX13 36 "ChanceWorksModel" "varTokens" "[I", Cond.methodLink RX13 416 yX13_look, Cond.instanceMethod yX13_look, Cond.selects RX13 yX13_look yX13_look, Cond.code yX13_look cX13_look 3 none, Cond.methodLink RX13 469 yX13_valueOf, Cond.instanceMethod yX13_valueOf, Cond.selects RX13 yX13_valueOf yX13_valueOf, Cond.code yX13_valueOf cX13_valueOf 2 (some .int), Cond.methodLink RX13 481 yX13_behind, Cond.instanceMethod yX13_behind, Cond.selects RX13 yX13_behind yX13_behind]
def wsX13_go__r8 : List Cond := [Cond.code yX13_behind cX13_behind 4 (some .int), Cond.methodLink RX13 441 yX13_rank, Cond.static yX13_rank, Cond.code yX13_rank cX13_rank 1 (some .int), Cond.methodLink RX13 472 yX13_settle, Cond.instanceMethod yX13_settle, Cond.selects RX13 yX13_settle yX13_settle, Cond.code yX13_settle cX13_settle 2 none, Cond.methodLink RX13 454 yX13_apply, Cond.instanceMethod yX13_apply, Cond.selects RX13 yX13_apply yX13_apply, Cond.code yX13_apply cX13_apply 5 none, Cond.methodLink RX13 444 yX13_compared, Cond.static yX13_compared, Cond.code yX13_compared cX13_compared 3 (some .int), Cond.methodLink RX13 366 yX13_close, Cond.instanceMethod yX13_close, Cond.selects RX13 yX13_close yX13_close, Cond.code yX13_close cX13_close 2 none, Cond.methodLink RX13 329 yX13_sign, Cond.instanceMethod yX13_sign, Cond.selects RX13 yX13_sign yX13_sign, Cond.code yX13_sign cX13_sign 2 none, Cond.methodLink RX13 475 yX13_cellOf]
def wsX13_go__r9 : List Cond := [Cond.instanceMethod yX13_cellOf, Cond.selects RX13 yX13_cellOf yX13_cellOf, Cond.code yX13_cellOf cX13_cellOf 4 (some .int), Cond.fieldLink RX13 45 "ChanceWorksModel" "arrSizes" "[I", Cond.fieldLink RX13 48 "ChanceWorksModel" "arrFirsts" "[I", Cond.methodLink RX13 572 yX13_fail, Cond.instanceMethod yX13_fail, Cond.selects RX13 yX13_fail yX13_fail, Cond.code yX13_fail cX13_fail 2 (some .int), Cond.methodLink RX13 591 yX13_findPlace, Cond.instanceMethod yX13_findPlace, Cond.selects RX13 yX13_findPlace yX13_findPlace, Cond.code yX13_findPlace cX13_findPlace 4 none, Cond.methodLink RX13 569 yX13_workAt, Cond.instanceMethod yX13_workAt, Cond.selects RX13 yX13_workAt yX13_workAt, Cond.code yX13_workAt cX13_workAt 2 (some .int), Cond.methodLink RX13 594 yX13_draw, Cond.instanceMethod yX13_draw, Cond.selects RX13 yX13_draw yX13_draw, Cond.code yX13_draw cX13_draw 7 (some .int), Cond.fieldLink RX13 575 "ChanceWorksModel" "outcomes" "I", Cond.fieldLink RX13 581 "ChanceWorksModel" "outTotal" "I", Cond.fieldLink RX13 134 "ChanceWorksModel" "outWeights" "[I"]
def wsX13_go__r10 : List Cond := [Cond.constant RX13 584 (1000000), Cond.methodLink RX13 391 yX13_isWord, Cond.instanceMethod yX13_isWord, Cond.selects RX13 yX13_isWord yX13_isWord, Cond.code yX13_isWord cX13_isWord 2 (some .boolean), Cond.methodLink RX13 578 yX13_outcome, Cond.instanceMethod yX13_outcome, Cond.selects RX13 yX13_outcome yX13_outcome, Cond.code yX13_outcome cX13_outcome 3 none, Cond.fieldLink RX13 131 "ChanceWorksModel" "outValues" "[I", Cond.methodLink RX13 597 yX13_choose, Cond.instanceMethod yX13_choose, Cond.selects RX13 yX13_choose yX13_choose, Cond.code yX13_choose cX13_choose 4 (some .int), Cond.methodLink RX13 853 yX13_draws, Cond.instanceMethod yX13_draws, Cond.selects RX13 yX13_draws yX13_draws, Cond.code yX13_draws cX13_draws 2 (some .int), Cond.methodLink RX13 844 yX13_drawn, Cond.instanceMethod yX13_drawn, Cond.selects RX13 yX13_drawn yX13_drawn, Cond.code yX13_drawn cX13_drawn 6 (some .int), Cond.fieldLink RX13 830 "ChanceWorksModel" "bySeed" "Z", Cond.fieldLink RX13 827 "ChanceWorksModel" "toldCount" "I"]
def wsX13_go__r11 : List Cond := [Cond.fieldLink RX13 217 "ChanceWorksModel" "toldDraws" "[I", Cond.fieldLink RX13 836 "ChanceWorksModel" "seed" "J", Cond.constantLong RX13 840 (6364136223846793005), Cond.constantLong RX13 842 (1442695040888963407), Cond.methodLink RX13 807 yX13_isSlot, Cond.static yX13_isSlot, Cond.code yX13_isSlot cX13_isSlot 2 (some .boolean), Cond.methodLink RX13 712 yX13_times, Cond.instanceMethod yX13_times, Cond.selects RX13 yX13_times yX13_times, Cond.code yX13_times cX13_times 14 none, Cond.methodLink RX13 680 yX13_trim, Cond.instanceMethod yX13_trim, Cond.selects RX13 yX13_trim yX13_trim, Cond.code yX13_trim cX13_trim 2 none, Cond.methodLink RX13 703 yX13_copy, Cond.instanceMethod yX13_copy, Cond.selects RX13 yX13_copy yX13_copy, Cond.code yX13_copy cX13_copy 4 none, Cond.methodLink RX13 628 yX13_get, Cond.instanceMethod yX13_get, Cond.selects RX13 yX13_get yX13_get, Cond.code yX13_get cX13_get 2 (some .int), Cond.methodLink RX13 856 yX13_chooses]
def wsX13_go__r12 : List Cond := [Cond.instanceMethod yX13_chooses, Cond.selects RX13 yX13_chooses yX13_chooses, Cond.code yX13_chooses cX13_chooses 2 (some .int), Cond.fieldLink RX13 533 "ChanceWorksModel" "isExplored" "Z", Cond.fieldLink RX13 172 "ChanceWorksModel" "plan" "[I", Cond.methodLink RX13 606 yX13_stateNow, Cond.instanceMethod yX13_stateNow, Cond.selects RX13 yX13_stateNow yX13_stateNow, Cond.code yX13_stateNow cX13_stateNow 3 (some .int), Cond.fieldLink RX13 542 "ChanceWorksModel" "states" "I", Cond.fieldLink RX13 144 "ChanceWorksModel" "hashes" "[I", Cond.methodLink RX13 600 yX13_pack, Cond.instanceMethod yX13_pack, Cond.selects RX13 yX13_pack yX13_pack, Cond.code yX13_pack cX13_pack 3 (some .int), Cond.fieldLink RX13 175 "ChanceWorksModel" "key" "[I", Cond.methodLink RX13 603 yX13_isKey, Cond.instanceMethod yX13_isKey, Cond.selects RX13 yX13_isKey yX13_isKey, Cond.code yX13_isKey cX13_isKey 4 (some .boolean), Cond.fieldLink RX13 141 "ChanceWorksModel" "stateRows" "[I"]
def wsX13_go_ : List Cond := .code yX13_go_ cX13_go_ 5 (some .int) :: ((wsX13_go__r1 ++ (wsX13_go__r2 ++ (wsX13_go__r3 ++ (wsX13_go__r4 ++ (wsX13_go__r5 ++ (wsX13_go__r6 ++ (wsX13_go__r7 ++ (wsX13_go__r8 ++ (wsX13_go__r9 ++ (wsX13_go__r10 ++ (wsX13_go__r11 ++ wsX13_go__r12))))))))))) ++ wsX130 ++ (vx_atM "java/lang/ArrayIndexOutOfBoundsException" ["java/lang/IndexOutOfBoundsException", "java/lang/RuntimeException", "java/lang/Exception"]).filter goodWord)
def wsX13_play_r1 : List Cond := [Cond.fieldLink RX13 836 "ChanceWorksModel" "seed" "J", Cond.fieldLink RX13 830 "ChanceWorksModel" "bySeed" "Z", Cond.methodLink RX13 862 yX13_go_, Cond.instanceMethod yX13_go_, Cond.selects RX13 yX13_go_ yX13_go_, Cond.initialized RX13, Cond.code yX13_go_ cX13_go_ 5 (some .int), Cond.fieldLink RX13 529 "ChanceWorksModel" "stands" "Z", Cond.fieldLink RX13 1 "ChanceWorksModel" "code" "I", Cond.fieldLink RX13 847 "ChanceWorksModel" "playedSteps" "I", Cond.fieldLink RX13 833 "ChanceWorksModel" "playedDraws" "I", Cond.fieldLink RX13 850 "ChanceWorksModel" "playedGain" "J", Cond.fieldLink RX13 585 "ChanceWorksModel" "gained" "I", Cond.fieldLink RX13 220 "ChanceWorksModel" "howPlayed" "I", Cond.fieldLink RX13 554 "ChanceWorksModel" "ended" "I", Cond.fieldLink RX13 859 "ChanceWorksModel" "playedNumber" "I", Cond.fieldLink RX13 223 "ChanceWorksModel" "playedGlobals" "[I", Cond.fieldLink RX13 122 "ChanceWorksModel" "globals" "[I", Cond.methodLink RX13 362 yX13_within, Cond.static yX13_within, Cond.code yX13_within cX13_within 3 (some .boolean), Cond.methodLink RX13 699 yX13_set, Cond.instanceMethod yX13_set, Cond.selects RX13 yX13_set yX13_set]
def wsX13_play_r2 : List Cond := [Cond.code yX13_set cX13_set 7 none, Cond.fieldLink RX13 185 "ChanceWorksModel" "big" "[I", Cond.constant RX13 676 (40000), Cond.constantLong RX13 677 (65535), Cond.fieldLink RX13 188 "ChanceWorksModel" "lengths" "[I", Cond.methodLink RX13 631 yX13_begin, Cond.instanceMethod yX13_begin, Cond.selects RX13 yX13_begin yX13_begin, Cond.code yX13_begin cX13_begin 2 (some .int), Cond.fieldLink RX13 333 "ChanceWorksModel" "vars" "I", Cond.fieldLink RX13 39 "ChanceWorksModel" "varValues" "[I", Cond.fieldLink RX13 551 "ChanceWorksModel" "calls" "I", Cond.fieldLink RX13 128 "ChanceWorksModel" "callVars" "[I", Cond.fieldLink RX13 63 "ChanceWorksModel" "firstOf" "[I", Cond.fieldLink RX13 487 "ChanceWorksModel" "main" "I", Cond.methodLink RX13 563 yX13_moveTo, Cond.instanceMethod yX13_moveTo, Cond.selects RX13 yX13_moveTo yX13_moveTo, Cond.code yX13_moveTo cX13_moveTo 2 (some .int), Cond.fieldLink RX13 125 "ChanceWorksModel" "ats" "[I", Cond.methodLink RX13 560 yX13_leave, Cond.instanceMethod yX13_leave, Cond.selects RX13 yX13_leave yX13_leave, Cond.code yX13_leave cX13_leave 4 (some .int)]
def wsX13_play_r3 : List Cond := [Cond.fieldLink RX13 69 "ChanceWorksModel" "begins" "[I", Cond.fieldLink RX13 72 "ChanceWorksModel" "expressions" "[I", Cond.fieldLink RX13 93 "ChanceWorksModel" "refs" "[I", Cond.fieldLink RX13 87 "ChanceWorksModel" "follows" "[I", Cond.methodLink RX13 557 yX13_store, Cond.instanceMethod yX13_store, Cond.selects RX13 yX13_store yX13_store, Cond.code yX13_store cX13_store 3 none, Cond.methodLink RX13 621 yX13_act, Cond.instanceMethod yX13_act, Cond.selects RX13 yX13_act yX13_act, Cond.code yX13_act cX13_act 4 (some .int), Cond.fieldLink RX13 300 "ChanceWorksModel" "fault" "I", Cond.fieldLink RX13 322 "ChanceWorksModel" "openCount" "I", Cond.fieldLink RX13 428 "ChanceWorksModel" "failure" "I", Cond.fieldLink RX13 438 "ChanceWorksModel" "mode" "I", Cond.fieldLink RX13 66 "ChanceWorksModel" "kinds" "[I", Cond.fieldLink RX13 75 "ChanceWorksModel" "bodies" "[I", Cond.fieldLink RX13 78 "ChanceWorksModel" "elses" "[I", Cond.fieldLink RX13 566 "ChanceWorksModel" "place" "I", Cond.methodLink RX13 588 yX13_call, Cond.instanceMethod yX13_call, Cond.selects RX13 yX13_call yX13_call, Cond.code yX13_call cX13_call 5 (some .int)]
def wsX13_play_r4 : List Cond := [Cond.fieldLink RX13 306 "ChanceWorksModel" "at" "I", Cond.fieldLink RX13 54 "ChanceWorksModel" "givens" "[I", Cond.fieldLink RX13 137 "ChanceWorksModel" "given" "[I", Cond.methodLink RX13 403 yX13_expression, Cond.instanceMethod yX13_expression, Cond.selects RX13 yX13_expression yX13_expression, Cond.code yX13_expression cX13_expression 2 (some .int), Cond.fieldLink RX13 425 "ChanceWorksModel" "waiting" "I", Cond.fieldLink RX13 435 "ChanceWorksModel" "values" "I", Cond.fieldLink RX13 113 "ChanceWorksModel" "piles" "[I", Cond.methodLink RX13 448 yX13_goesOn, Cond.instanceMethod yX13_goesOn, Cond.selects RX13 yX13_goesOn yX13_goesOn, Cond.code yX13_goesOn cX13_goesOn 1 (some .boolean), Cond.methodLink RX13 325 yX13_isRight, Cond.instanceMethod yX13_isRight, Cond.selects RX13 yX13_isRight yX13_isRight, Cond.code yX13_isRight cX13_isRight 1 (some .boolean), Cond.methodLink RX13 478 yX13_operand, Cond.instanceMethod yX13_operand, Cond.selects RX13 yX13_operand yX13_operand, Cond.code yX13_operand cX13_operand 2 (some .boolean), Cond.fieldLink RX13 19 "ChanceWorksModel" "sorts" "[B", Cond.fieldLink RX13 26 "ChanceWorksModel" "numbers" "[I"]
def wsX13_play_r5 : List Cond := [Cond.methodLink RX13 316 yX13_isAt, Cond.instanceMethod yX13_isAt, Cond.selects RX13 yX13_isAt yX13_isAt, Cond.code yX13_isAt cX13_isAt 2 (some .boolean), Cond.methodLink RX13 460 yX13_hold, Cond.instanceMethod yX13_hold, Cond.selects RX13 yX13_hold yX13_hold, Cond.code yX13_hold cX13_hold 3 none, Cond.fieldLink RX13 107 "ChanceWorksModel" "waits" "[I", Cond.fieldLink RX13 110 "ChanceWorksModel" "waitRefs" "[I", Cond.methodLink RX13 319 yX13_go, Cond.instanceMethod yX13_go, Cond.selects RX13 yX13_go yX13_go, Cond.code yX13_go cX13_go 1 none, Cond.methodLink RX13 309 yX13_readNext, Cond.instanceMethod yX13_readNext, Cond.selects RX13 yX13_readNext yX13_readNext, Cond.code yX13_readNext cX13_readNext 1 none, Cond.methodLink RX13 312 yX13_flaw, Cond.instanceMethod yX13_flaw, Cond.selects RX13 yX13_flaw yX13_flaw, Cond.code yX13_flaw cX13_flaw 3 none, Cond.fieldLink RX13 22 "ChanceWorksModel" "places" "[I", Cond.fieldLink RX13 303 "ChanceWorksModel" "faultPlace" "I"]
def wsX13_play_r6 : List Cond := [Cond.methodLink RX13 359 yX13_open, Cond.instanceMethod yX13_open, Cond.selects RX13 yX13_open yX13_open, Cond.code yX13_open cX13_open 2 none, Cond.methodLink RX13 463 yX13_push, Cond.instanceMethod yX13_push, Cond.selects RX13 yX13_push yX13_push, Cond.code yX13_push cX13_push 2 none, Cond.methodLink RX13 457 yX13_turn, Cond.instanceMethod yX13_turn, Cond.selects RX13 yX13_turn yX13_turn, Cond.code yX13_turn cX13_turn 2 none, Cond.methodLink RX13 451 yX13_top, Cond.instanceMethod yX13_top, Cond.selects RX13 yX13_top yX13_top, Cond.code yX13_top cX13_top 1 (some .int), Cond.methodLink RX13 431 yX13_truth, Cond.static yX13_truth, Cond.code yX13_truth cX13_truth 1 (some .int), Cond.methodLink RX13 466 yX13_named, Cond.instanceMethod yX13_named, Cond.selects RX13 yX13_named yX13_named, Cond.code yX13_named cX13_named 3 (some .boolean), Cond.methodLink RX13 410 yX13_arrayOf]
def wsX13_play_r7 : List Cond := [Cond.instanceMethod yX13_arrayOf, Cond.selects RX13 yX13_arrayOf yX13_arrayOf, Cond.code yX13_arrayOf cX13_arrayOf 3 (some .int), Cond.fieldLink RX13 340 "ChanceWorksModel" "arrs" "I", Cond.fieldLink RX13 42 "ChanceWorksModel" "arrTokens" "[I", Cond.methodLink RX13 336 yX13_isSame, Cond.instanceMethod yX13_isSame, Cond.selects RX13 yX13_isSame yX13_isSame, Cond.code yX13_isSame cX13_isSame 3 (some .boolean), Cond.fieldLink RX13 29 "ChanceWorksModel" "firsts" "[J", Cond.fieldLink RX13 33 "ChanceWorksModel" "seconds" "[I", Cond.methodLink RX13 413 yX13_variableOf, Cond.instanceMethod yX13_variableOf, Cond.selects RX13 yX13_variableOf yX13_variableOf, Cond.code yX13_variableOf cX13_variableOf 3 (some .int), Cond.fieldLink RX13 57 "ChanceWorksModel" "variables" "[I", Cond.fieldLink RX13 346 "ChanceWorksModel" "function" "I", Cond.fieldLink RX13 60 "ChanceWorksModel" "variableTokens" "[I", Cond.fieldLink RX13 36 "ChanceWorksModel" "varTokens" "[I", Cond.methodLink RX13 416 yX13_look, Cond.instanceMethod yX13_look, Cond.selects RX13 yX13_look yX13_look, Cond.code yX13_look cX13_look 3 none, Cond.methodLink RX13 469 yX13_valueOf]
def wsX13_play_r8 : List Cond := [Cond.instanceMethod yX13_valueOf, Cond.selects RX13 yX13_valueOf yX13_valueOf, Cond.code yX13_valueOf cX13_valueOf 2 (some .int), Cond.methodLink RX13 481 yX13_behind, Cond.instanceMethod yX13_behind, Cond.selects RX13 yX13_behind yX13_behind, Cond.code yX13_behind cX13_behind 4 (some .int), Cond.methodLink RX13 441 yX13_rank, Cond.static yX13_rank, Cond.code yX13_rank cX13_rank 1 (some .int), Cond.methodLink RX13 472 yX13_settle, Cond.instanceMethod yX13_settle, Cond.selects RX13 yX13_settle yX13_settle, Cond.code yX13_settle cX13_settle 2 none, Cond.methodLink RX13 454 yX13_apply, Cond.instanceMethod yX13_apply, Cond.selects RX13 yX13_apply yX13_apply, Cond.code yX13_apply cX13_apply 5 none, Cond.methodLink RX13 444 yX13_compared, Cond.static yX13_compared, Cond.code yX13_compared cX13_compared 3 (some .int), Cond.methodLink RX13 366 yX13_close, Cond.instanceMethod yX13_close, Cond.selects RX13 yX13_close yX13_close]
def wsX13_play_r9 : List Cond := [Cond.code yX13_close cX13_close 2 none, Cond.methodLink RX13 329 yX13_sign, Cond.instanceMethod yX13_sign, Cond.selects RX13 yX13_sign yX13_sign, Cond.code yX13_sign cX13_sign 2 none, Cond.methodLink RX13 475 yX13_cellOf, Cond.instanceMethod yX13_cellOf, Cond.selects RX13 yX13_cellOf yX13_cellOf, Cond.code yX13_cellOf cX13_cellOf 4 (some .int), Cond.fieldLink RX13 45 "ChanceWorksModel" "arrSizes" "[I", Cond.fieldLink RX13 48 "ChanceWorksModel" "arrFirsts" "[I", Cond.methodLink RX13 572 yX13_fail, Cond.instanceMethod yX13_fail, Cond.selects RX13 yX13_fail yX13_fail, Cond.code yX13_fail cX13_fail 2 (some .int), Cond.methodLink RX13 591 yX13_findPlace, Cond.instanceMethod yX13_findPlace, Cond.selects RX13 yX13_findPlace yX13_findPlace, Cond.code yX13_findPlace cX13_findPlace 4 none, Cond.methodLink RX13 569 yX13_workAt, Cond.instanceMethod yX13_workAt, Cond.selects RX13 yX13_workAt yX13_workAt, Cond.code yX13_workAt cX13_workAt 2 (some .int), Cond.methodLink RX13 594 yX13_draw]
def wsX13_play_r10 : List Cond := [Cond.instanceMethod yX13_draw, Cond.selects RX13 yX13_draw yX13_draw, Cond.code yX13_draw cX13_draw 7 (some .int), Cond.fieldLink RX13 575 "ChanceWorksModel" "outcomes" "I", Cond.fieldLink RX13 581 "ChanceWorksModel" "outTotal" "I", Cond.fieldLink RX13 134 "ChanceWorksModel" "outWeights" "[I", Cond.constant RX13 584 (1000000), Cond.methodLink RX13 391 yX13_isWord, Cond.instanceMethod yX13_isWord, Cond.selects RX13 yX13_isWord yX13_isWord, Cond.code yX13_isWord cX13_isWord 2 (some .boolean), Cond.methodLink RX13 578 yX13_outcome, Cond.instanceMethod yX13_outcome, Cond.selects RX13 yX13_outcome yX13_outcome, Cond.code yX13_outcome cX13_outcome 3 none, Cond.fieldLink RX13 131 "ChanceWorksModel" "outValues" "[I", Cond.methodLink RX13 597 yX13_choose, Cond.instanceMethod yX13_choose, Cond.selects RX13 yX13_choose yX13_choose, Cond.code yX13_choose cX13_choose 4 (some .int), Cond.methodLink RX13 853 yX13_draws, Cond.instanceMethod yX13_draws, Cond.selects RX13 yX13_draws yX13_draws, Cond.code yX13_draws cX13_draws 2 (some .int)]
def wsX13_play_r11 : List Cond := [Cond.methodLink RX13 844 yX13_drawn, Cond.instanceMethod yX13_drawn, Cond.selects RX13 yX13_drawn yX13_drawn, Cond.code yX13_drawn cX13_drawn 6 (some .int), Cond.fieldLink RX13 827 "ChanceWorksModel" "toldCount" "I", Cond.fieldLink RX13 217 "ChanceWorksModel" "toldDraws" "[I", Cond.constantLong RX13 840 (6364136223846793005), Cond.constantLong RX13 842 (1442695040888963407), Cond.methodLink RX13 807 yX13_isSlot, Cond.static yX13_isSlot, Cond.code yX13_isSlot cX13_isSlot 2 (some .boolean), Cond.methodLink RX13 712 yX13_times, Cond.instanceMethod yX13_times, Cond.selects RX13 yX13_times yX13_times, Cond.code yX13_times cX13_times 14 none, Cond.methodLink RX13 680 yX13_trim, Cond.instanceMethod yX13_trim, Cond.selects RX13 yX13_trim yX13_trim, Cond.code yX13_trim cX13_trim 2 none, Cond.methodLink RX13 703 yX13_copy, Cond.instanceMethod yX13_copy, Cond.selects RX13 yX13_copy yX13_copy, Cond.code yX13_copy cX13_copy 4 none, Cond.methodLink RX13 628 yX13_get]
def wsX13_play_r12 : List Cond := [Cond.instanceMethod yX13_get, Cond.selects RX13 yX13_get yX13_get, Cond.code yX13_get cX13_get 2 (some .int), Cond.methodLink RX13 856 yX13_chooses, Cond.instanceMethod yX13_chooses, Cond.selects RX13 yX13_chooses yX13_chooses, Cond.code yX13_chooses cX13_chooses 2 (some .int), Cond.fieldLink RX13 533 "ChanceWorksModel" "isExplored" "Z", Cond.fieldLink RX13 172 "ChanceWorksModel" "plan" "[I", Cond.methodLink RX13 606 yX13_stateNow, Cond.instanceMethod yX13_stateNow, Cond.selects RX13 yX13_stateNow yX13_stateNow, Cond.code yX13_stateNow cX13_stateNow 3 (some .int), Cond.fieldLink RX13 542 "ChanceWorksModel" "states" "I", Cond.fieldLink RX13 144 "ChanceWorksModel" "hashes" "[I", Cond.methodLink RX13 600 yX13_pack, Cond.instanceMethod yX13_pack, Cond.selects RX13 yX13_pack yX13_pack, Cond.code yX13_pack cX13_pack 3 (some .int), Cond.fieldLink RX13 175 "ChanceWorksModel" "key" "[I", Cond.methodLink RX13 603 yX13_isKey, Cond.instanceMethod yX13_isKey, Cond.selects RX13 yX13_isKey yX13_isKey, Cond.code yX13_isKey cX13_isKey 4 (some .boolean)]
def wsX13_play_r13 : List Cond := [Cond.fieldLink RX13 141 "ChanceWorksModel" "stateRows" "[I"]
def wsX13_play : List Cond := .code yX13_play cX13_play 4 (some .int) :: ((wsX13_play_r1 ++ (wsX13_play_r2 ++ (wsX13_play_r3 ++ (wsX13_play_r4 ++ (wsX13_play_r5 ++ (wsX13_play_r6 ++ (wsX13_play_r7 ++ (wsX13_play_r8 ++ (wsX13_play_r9 ++ (wsX13_play_r10 ++ (wsX13_play_r11 ++ (wsX13_play_r12 ++ wsX13_play_r13)))))))))))) ++ wsX130 ++ (vx_atM "java/lang/ArrayIndexOutOfBoundsException" ["java/lang/IndexOutOfBoundsException", "java/lang/RuntimeException", "java/lang/Exception"]).filter goodWord)
def wsX13_walk_r1 : List Cond := [Cond.fieldLink RX13 830 "ChanceWorksModel" "bySeed" "Z", Cond.methodLink RX13 862 yX13_go_, Cond.instanceMethod yX13_go_, Cond.selects RX13 yX13_go_ yX13_go_, Cond.initialized RX13, Cond.code yX13_go_ cX13_go_ 5 (some .int), Cond.fieldLink RX13 529 "ChanceWorksModel" "stands" "Z", Cond.fieldLink RX13 1 "ChanceWorksModel" "code" "I", Cond.fieldLink RX13 847 "ChanceWorksModel" "playedSteps" "I", Cond.fieldLink RX13 833 "ChanceWorksModel" "playedDraws" "I", Cond.fieldLink RX13 850 "ChanceWorksModel" "playedGain" "J", Cond.fieldLink RX13 585 "ChanceWorksModel" "gained" "I", Cond.fieldLink RX13 220 "ChanceWorksModel" "howPlayed" "I", Cond.fieldLink RX13 554 "ChanceWorksModel" "ended" "I", Cond.fieldLink RX13 859 "ChanceWorksModel" "playedNumber" "I", Cond.fieldLink RX13 223 "ChanceWorksModel" "playedGlobals" "[I", Cond.fieldLink RX13 122 "ChanceWorksModel" "globals" "[I", Cond.methodLink RX13 362 yX13_within, Cond.static yX13_within, Cond.code yX13_within cX13_within 3 (some .boolean), Cond.methodLink RX13 699 yX13_set, Cond.instanceMethod yX13_set, Cond.selects RX13 yX13_set yX13_set, Cond.code yX13_set cX13_set 7 none]
def wsX13_walk_r2 : List Cond := [Cond.fieldLink RX13 185 "ChanceWorksModel" "big" "[I", Cond.constant RX13 676 (40000), Cond.constantLong RX13 677 (65535), Cond.fieldLink RX13 188 "ChanceWorksModel" "lengths" "[I", Cond.methodLink RX13 631 yX13_begin, Cond.instanceMethod yX13_begin, Cond.selects RX13 yX13_begin yX13_begin, Cond.code yX13_begin cX13_begin 2 (some .int), Cond.fieldLink RX13 333 "ChanceWorksModel" "vars" "I", Cond.fieldLink RX13 39 "ChanceWorksModel" "varValues" "[I", Cond.fieldLink RX13 551 "ChanceWorksModel" "calls" "I", Cond.fieldLink RX13 128 "ChanceWorksModel" "callVars" "[I", Cond.fieldLink RX13 63 "ChanceWorksModel" "firstOf" "[I", Cond.fieldLink RX13 487 "ChanceWorksModel" "main" "I", Cond.methodLink RX13 563 yX13_moveTo, Cond.instanceMethod yX13_moveTo, Cond.selects RX13 yX13_moveTo yX13_moveTo, Cond.code yX13_moveTo cX13_moveTo 2 (some .int), Cond.fieldLink RX13 125 "ChanceWorksModel" "ats" "[I", Cond.methodLink RX13 560 yX13_leave, Cond.instanceMethod yX13_leave, Cond.selects RX13 yX13_leave yX13_leave, Cond.code yX13_leave cX13_leave 4 (some .int), Cond.fieldLink RX13 69 "ChanceWorksModel" "begins" "[I"]
def wsX13_walk_r3 : List Cond := [Cond.fieldLink RX13 72 "ChanceWorksModel" "expressions" "[I", Cond.fieldLink RX13 93 "ChanceWorksModel" "refs" "[I", Cond.fieldLink RX13 87 "ChanceWorksModel" "follows" "[I", Cond.methodLink RX13 557 yX13_store, Cond.instanceMethod yX13_store, Cond.selects RX13 yX13_store yX13_store, Cond.code yX13_store cX13_store 3 none, Cond.methodLink RX13 621 yX13_act, Cond.instanceMethod yX13_act, Cond.selects RX13 yX13_act yX13_act, Cond.code yX13_act cX13_act 4 (some .int), Cond.fieldLink RX13 300 "ChanceWorksModel" "fault" "I", Cond.fieldLink RX13 322 "ChanceWorksModel" "openCount" "I", Cond.fieldLink RX13 428 "ChanceWorksModel" "failure" "I", Cond.fieldLink RX13 438 "ChanceWorksModel" "mode" "I", Cond.fieldLink RX13 66 "ChanceWorksModel" "kinds" "[I", Cond.fieldLink RX13 75 "ChanceWorksModel" "bodies" "[I", Cond.fieldLink RX13 78 "ChanceWorksModel" "elses" "[I", Cond.fieldLink RX13 566 "ChanceWorksModel" "place" "I", Cond.methodLink RX13 588 yX13_call, Cond.instanceMethod yX13_call, Cond.selects RX13 yX13_call yX13_call, Cond.code yX13_call cX13_call 5 (some .int), Cond.fieldLink RX13 306 "ChanceWorksModel" "at" "I"]
def wsX13_walk_r4 : List Cond := [Cond.fieldLink RX13 54 "ChanceWorksModel" "givens" "[I", Cond.fieldLink RX13 137 "ChanceWorksModel" "given" "[I", Cond.methodLink RX13 403 yX13_expression, Cond.instanceMethod yX13_expression, Cond.selects RX13 yX13_expression yX13_expression, Cond.code yX13_expression cX13_expression 2 (some .int), Cond.fieldLink RX13 425 "ChanceWorksModel" "waiting" "I", Cond.fieldLink RX13 435 "ChanceWorksModel" "values" "I", Cond.fieldLink RX13 113 "ChanceWorksModel" "piles" "[I", Cond.methodLink RX13 448 yX13_goesOn, Cond.instanceMethod yX13_goesOn, Cond.selects RX13 yX13_goesOn yX13_goesOn, Cond.code yX13_goesOn cX13_goesOn 1 (some .boolean), Cond.methodLink RX13 325 yX13_isRight, Cond.instanceMethod yX13_isRight, Cond.selects RX13 yX13_isRight yX13_isRight, Cond.code yX13_isRight cX13_isRight 1 (some .boolean), Cond.methodLink RX13 478 yX13_operand, Cond.instanceMethod yX13_operand, Cond.selects RX13 yX13_operand yX13_operand, Cond.code yX13_operand cX13_operand 2 (some .boolean), Cond.fieldLink RX13 19 "ChanceWorksModel" "sorts" "[B", Cond.fieldLink RX13 26 "ChanceWorksModel" "numbers" "[I", Cond.methodLink RX13 316 yX13_isAt]
def wsX13_walk_r5 : List Cond := [Cond.instanceMethod yX13_isAt, Cond.selects RX13 yX13_isAt yX13_isAt, Cond.code yX13_isAt cX13_isAt 2 (some .boolean), Cond.methodLink RX13 460 yX13_hold, Cond.instanceMethod yX13_hold, Cond.selects RX13 yX13_hold yX13_hold, Cond.code yX13_hold cX13_hold 3 none, Cond.fieldLink RX13 107 "ChanceWorksModel" "waits" "[I", Cond.fieldLink RX13 110 "ChanceWorksModel" "waitRefs" "[I", Cond.methodLink RX13 319 yX13_go, Cond.instanceMethod yX13_go, Cond.selects RX13 yX13_go yX13_go, Cond.code yX13_go cX13_go 1 none, Cond.methodLink RX13 309 yX13_readNext, Cond.instanceMethod yX13_readNext, Cond.selects RX13 yX13_readNext yX13_readNext, Cond.code yX13_readNext cX13_readNext 1 none, Cond.methodLink RX13 312 yX13_flaw, Cond.instanceMethod yX13_flaw, Cond.selects RX13 yX13_flaw yX13_flaw, Cond.code yX13_flaw cX13_flaw 3 none, Cond.fieldLink RX13 22 "ChanceWorksModel" "places" "[I", Cond.fieldLink RX13 303 "ChanceWorksModel" "faultPlace" "I", Cond.methodLink RX13 359 yX13_open]
def wsX13_walk_r6 : List Cond := [Cond.instanceMethod yX13_open, Cond.selects RX13 yX13_open yX13_open, Cond.code yX13_open cX13_open 2 none, Cond.methodLink RX13 463 yX13_push, Cond.instanceMethod yX13_push, Cond.selects RX13 yX13_push yX13_push, Cond.code yX13_push cX13_push 2 none, Cond.methodLink RX13 457 yX13_turn, Cond.instanceMethod yX13_turn, Cond.selects RX13 yX13_turn yX13_turn, Cond.code yX13_turn cX13_turn 2 none, Cond.methodLink RX13 451 yX13_top, Cond.instanceMethod yX13_top, Cond.selects RX13 yX13_top yX13_top, Cond.code yX13_top cX13_top 1 (some .int), Cond.methodLink RX13 431 yX13_truth, Cond.static yX13_truth, Cond.code yX13_truth cX13_truth 1 (some .int), Cond.methodLink RX13 466 yX13_named, Cond.instanceMethod yX13_named, Cond.selects RX13 yX13_named yX13_named, Cond.code yX13_named cX13_named 3 (some .boolean), Cond.methodLink RX13 410 yX13_arrayOf, Cond.instanceMethod yX13_arrayOf]
def wsX13_walk_r7 : List Cond := [Cond.selects RX13 yX13_arrayOf yX13_arrayOf, Cond.code yX13_arrayOf cX13_arrayOf 3 (some .int), Cond.fieldLink RX13 340 "ChanceWorksModel" "arrs" "I", Cond.fieldLink RX13 42 "ChanceWorksModel" "arrTokens" "[I", Cond.methodLink RX13 336 yX13_isSame, Cond.instanceMethod yX13_isSame, Cond.selects RX13 yX13_isSame yX13_isSame, Cond.code yX13_isSame cX13_isSame 3 (some .boolean), Cond.fieldLink RX13 29 "ChanceWorksModel" "firsts" "[J", Cond.fieldLink RX13 33 "ChanceWorksModel" "seconds" "[I", Cond.methodLink RX13 413 yX13_variableOf, Cond.instanceMethod yX13_variableOf, Cond.selects RX13 yX13_variableOf yX13_variableOf, Cond.code yX13_variableOf cX13_variableOf 3 (some .int), Cond.fieldLink RX13 57 "ChanceWorksModel" "variables" "[I", Cond.fieldLink RX13 346 "ChanceWorksModel" "function" "I", Cond.fieldLink RX13 60 "ChanceWorksModel" "variableTokens" "[I", Cond.fieldLink RX13 36 "ChanceWorksModel" "varTokens" "[I", Cond.methodLink RX13 416 yX13_look, Cond.instanceMethod yX13_look, Cond.selects RX13 yX13_look yX13_look, Cond.code yX13_look cX13_look 3 none, Cond.methodLink RX13 469 yX13_valueOf, Cond.instanceMethod yX13_valueOf]
def wsX13_walk_r8 : List Cond := [Cond.selects RX13 yX13_valueOf yX13_valueOf, Cond.code yX13_valueOf cX13_valueOf 2 (some .int), Cond.methodLink RX13 481 yX13_behind, Cond.instanceMethod yX13_behind, Cond.selects RX13 yX13_behind yX13_behind, Cond.code yX13_behind cX13_behind 4 (some .int), Cond.methodLink RX13 441 yX13_rank, Cond.static yX13_rank, Cond.code yX13_rank cX13_rank 1 (some .int), Cond.methodLink RX13 472 yX13_settle, Cond.instanceMethod yX13_settle, Cond.selects RX13 yX13_settle yX13_settle, Cond.code yX13_settle cX13_settle 2 none, Cond.methodLink RX13 454 yX13_apply, Cond.instanceMethod yX13_apply, Cond.selects RX13 yX13_apply yX13_apply, Cond.code yX13_apply cX13_apply 5 none, Cond.methodLink RX13 444 yX13_compared, Cond.static yX13_compared, Cond.code yX13_compared cX13_compared 3 (some .int), Cond.methodLink RX13 366 yX13_close, Cond.instanceMethod yX13_close, Cond.selects RX13 yX13_close yX13_close, Cond.code yX13_close cX13_close 2 none]
def wsX13_walk_r9 : List Cond := [Cond.methodLink RX13 329 yX13_sign, Cond.instanceMethod yX13_sign, Cond.selects RX13 yX13_sign yX13_sign, Cond.code yX13_sign cX13_sign 2 none, Cond.methodLink RX13 475 yX13_cellOf, Cond.instanceMethod yX13_cellOf, Cond.selects RX13 yX13_cellOf yX13_cellOf, Cond.code yX13_cellOf cX13_cellOf 4 (some .int), Cond.fieldLink RX13 45 "ChanceWorksModel" "arrSizes" "[I", Cond.fieldLink RX13 48 "ChanceWorksModel" "arrFirsts" "[I", Cond.methodLink RX13 572 yX13_fail, Cond.instanceMethod yX13_fail, Cond.selects RX13 yX13_fail yX13_fail, Cond.code yX13_fail cX13_fail 2 (some .int), Cond.methodLink RX13 591 yX13_findPlace, Cond.instanceMethod yX13_findPlace, Cond.selects RX13 yX13_findPlace yX13_findPlace, Cond.code yX13_findPlace cX13_findPlace 4 none, Cond.methodLink RX13 569 yX13_workAt, Cond.instanceMethod yX13_workAt, Cond.selects RX13 yX13_workAt yX13_workAt, Cond.code yX13_workAt cX13_workAt 2 (some .int), Cond.methodLink RX13 594 yX13_draw, Cond.instanceMethod yX13_draw]
def wsX13_walk_r10 : List Cond := [Cond.selects RX13 yX13_draw yX13_draw, Cond.code yX13_draw cX13_draw 7 (some .int), Cond.fieldLink RX13 575 "ChanceWorksModel" "outcomes" "I", Cond.fieldLink RX13 581 "ChanceWorksModel" "outTotal" "I", Cond.fieldLink RX13 134 "ChanceWorksModel" "outWeights" "[I", Cond.constant RX13 584 (1000000), Cond.methodLink RX13 391 yX13_isWord, Cond.instanceMethod yX13_isWord, Cond.selects RX13 yX13_isWord yX13_isWord, Cond.code yX13_isWord cX13_isWord 2 (some .boolean), Cond.methodLink RX13 578 yX13_outcome, Cond.instanceMethod yX13_outcome, Cond.selects RX13 yX13_outcome yX13_outcome, Cond.code yX13_outcome cX13_outcome 3 none, Cond.fieldLink RX13 131 "ChanceWorksModel" "outValues" "[I", Cond.methodLink RX13 597 yX13_choose, Cond.instanceMethod yX13_choose, Cond.selects RX13 yX13_choose yX13_choose, Cond.code yX13_choose cX13_choose 4 (some .int), Cond.methodLink RX13 853 yX13_draws, Cond.instanceMethod yX13_draws, Cond.selects RX13 yX13_draws yX13_draws, Cond.code yX13_draws cX13_draws 2 (some .int), Cond.methodLink RX13 844 yX13_drawn]
def wsX13_walk_r11 : List Cond := [Cond.instanceMethod yX13_drawn, Cond.selects RX13 yX13_drawn yX13_drawn, Cond.code yX13_drawn cX13_drawn 6 (some .int), Cond.fieldLink RX13 827 "ChanceWorksModel" "toldCount" "I", Cond.fieldLink RX13 217 "ChanceWorksModel" "toldDraws" "[I", Cond.fieldLink RX13 836 "ChanceWorksModel" "seed" "J", Cond.constantLong RX13 840 (6364136223846793005), Cond.constantLong RX13 842 (1442695040888963407), Cond.methodLink RX13 807 yX13_isSlot, Cond.static yX13_isSlot, Cond.code yX13_isSlot cX13_isSlot 2 (some .boolean), Cond.methodLink RX13 712 yX13_times, Cond.instanceMethod yX13_times, Cond.selects RX13 yX13_times yX13_times, Cond.code yX13_times cX13_times 14 none, Cond.methodLink RX13 680 yX13_trim, Cond.instanceMethod yX13_trim, Cond.selects RX13 yX13_trim yX13_trim, Cond.code yX13_trim cX13_trim 2 none, Cond.methodLink RX13 703 yX13_copy, Cond.instanceMethod yX13_copy, Cond.selects RX13 yX13_copy yX13_copy, Cond.code yX13_copy cX13_copy 4 none, Cond.methodLink RX13 628 yX13_get]
def wsX13_walk_r12 : List Cond := [Cond.instanceMethod yX13_get, Cond.selects RX13 yX13_get yX13_get, Cond.code yX13_get cX13_get 2 (some .int), Cond.methodLink RX13 856 yX13_chooses, Cond.instanceMethod yX13_chooses, Cond.selects RX13 yX13_chooses yX13_chooses, Cond.code yX13_chooses cX13_chooses 2 (some .int), Cond.fieldLink RX13 533 "ChanceWorksModel" "isExplored" "Z", Cond.fieldLink RX13 172 "ChanceWorksModel" "plan" "[I", Cond.methodLink RX13 606 yX13_stateNow, Cond.instanceMethod yX13_stateNow, Cond.selects RX13 yX13_stateNow yX13_stateNow, Cond.code yX13_stateNow cX13_stateNow 3 (some .int), Cond.fieldLink RX13 542 "ChanceWorksModel" "states" "I", Cond.fieldLink RX13 144 "ChanceWorksModel" "hashes" "[I", Cond.methodLink RX13 600 yX13_pack, Cond.instanceMethod yX13_pack, Cond.selects RX13 yX13_pack yX13_pack, Cond.code yX13_pack cX13_pack 3 (some .int), Cond.fieldLink RX13 175 "ChanceWorksModel" "key" "[I", Cond.methodLink RX13 603 yX13_isKey, Cond.instanceMethod yX13_isKey, Cond.selects RX13 yX13_isKey yX13_isKey, Cond.code yX13_isKey cX13_isKey 4 (some .boolean)]
def wsX13_walk_r13 : List Cond := [Cond.fieldLink RX13 141 "ChanceWorksModel" "stateRows" "[I"]
def wsX13_walk : List Cond := .code yX13_walk cX13_walk 2 (some .int) :: ((wsX13_walk_r1 ++ (wsX13_walk_r2 ++ (wsX13_walk_r3 ++ (wsX13_walk_r4 ++ (wsX13_walk_r5 ++ (wsX13_walk_r6 ++ (wsX13_walk_r7 ++ (wsX13_walk_r8 ++ (wsX13_walk_r9 ++ (wsX13_walk_r10 ++ (wsX13_walk_r11 ++ (wsX13_walk_r12 ++ wsX13_walk_r13)))))))))))) ++ wsX130 ++ (vx_atM "java/lang/ArrayIndexOutOfBoundsException" ["java/lang/IndexOutOfBoundsException", "java/lang/RuntimeException", "java/lang/Exception"]).filter goodWord)
def wsX13_played : List Cond := .code yX13_played cX13_played 2 (some .long) :: ([.fieldLink RX13 529 "ChanceWorksModel" "stands" "Z", .fieldLink RX13 333 "ChanceWorksModel" "vars" "I", .fieldLink RX13 369 "ChanceWorksModel" "cells" "I", .fieldLink RX13 1 "ChanceWorksModel" "code" "I", .fieldLink RX13 220 "ChanceWorksModel" "howPlayed" "I", .fieldLink RX13 859 "ChanceWorksModel" "playedNumber" "I", .fieldLink RX13 847 "ChanceWorksModel" "playedSteps" "I", .fieldLink RX13 833 "ChanceWorksModel" "playedDraws" "I", .fieldLink RX13 850 "ChanceWorksModel" "playedGain" "J", .fieldLink RX13 223 "ChanceWorksModel" "playedGlobals" "[I"] ++ wsX130 ++ (vx_atM "java/lang/ArrayIndexOutOfBoundsException" ["java/lang/IndexOutOfBoundsException", "java/lang/RuntimeException", "java/lang/Exception"]).filter goodWord)
def wsX13_keepWorth : List Cond := .code yX13_keepWorth cX13_keepWorth 4 none :: ([.fieldLink RX13 235 "ChanceWorksModel" "newSigns" "[I", .fieldLink RX13 710 "ChanceWorksModel" "sign" "I", .fieldLink RX13 232 "ChanceWorksModel" "newWorths" "[I", .fieldLink RX13 188 "ChanceWorksModel" "lengths" "[I", .fieldLink RX13 185 "ChanceWorksModel" "big" "[I", .constant RX13 733 (160000), .constant RX13 734 (200000)] ++ wsX130 ++ (vx_atM "java/lang/ArrayIndexOutOfBoundsException" ["java/lang/IndexOutOfBoundsException", "java/lang/RuntimeException", "java/lang/Exception"]).filter goodWord)
def wsX13_isWorthDone : List Cond := .code yX13_isWorthDone cX13_isWorthDone 4 (some .boolean) :: ([.fieldLink RX13 151 "ChanceWorksModel" "nextStarts" "[I", .fieldLink RX13 154 "ChanceWorksModel" "nextKinds" "[I", .fieldLink RX13 198 "ChanceWorksModel" "isDone" "[Z", .fieldLink RX13 157 "ChanceWorksModel" "nextNumbers" "[I"] ++ wsX130 ++ (vx_atM "java/lang/ArrayIndexOutOfBoundsException" ["java/lang/IndexOutOfBoundsException", "java/lang/RuntimeException", "java/lang/Exception"]).filter goodWord)
def wsX13_findWorth_r1 : List Cond := [Cond.fieldLink RX13 166 "ChanceWorksModel" "isChoice" "[Z", Cond.fieldLink RX13 238 "ChanceWorksModel" "newPlan" "[I", Cond.fieldLink RX13 151 "ChanceWorksModel" "nextStarts" "[I", Cond.fieldLink RX13 160 "ChanceWorksModel" "nextWeights" "[I", Cond.fieldLink RX13 163 "ChanceWorksModel" "totals" "[I", Cond.fieldLink RX13 169 "ChanceWorksModel" "gains" "[I", Cond.methodLink RX13 867 yX13_takeNext, Cond.instanceMethod yX13_takeNext, Cond.selects RX13 yX13_takeNext yX13_takeNext, Cond.initialized RX13, Cond.code yX13_takeNext cX13_takeNext 3 none, Cond.methodLink RX13 762 yX13_clearSum, Cond.instanceMethod yX13_clearSum, Cond.selects RX13 yX13_clearSum yX13_clearSum, Cond.code yX13_clearSum cX13_clearSum 1 none, Cond.fieldLink RX13 710 "ChanceWorksModel" "sign" "I", Cond.methodLink RX13 699 yX13_set, Cond.instanceMethod yX13_set, Cond.selects RX13 yX13_set yX13_set, Cond.code yX13_set cX13_set 7 none, Cond.fieldLink RX13 185 "ChanceWorksModel" "big" "[I", Cond.constant RX13 676 (40000), Cond.constantLong RX13 677 (65535), Cond.fieldLink RX13 188 "ChanceWorksModel" "lengths" "[I"]
def wsX13_findWorth_r2 : List Cond := [Cond.methodLink RX13 864 yX13_loadNext, Cond.instanceMethod yX13_loadNext, Cond.selects RX13 yX13_loadNext yX13_loadNext, Cond.code yX13_loadNext cX13_loadNext 2 (some .int), Cond.fieldLink RX13 154 "ChanceWorksModel" "nextKinds" "[I", Cond.fieldLink RX13 232 "ChanceWorksModel" "newWorths" "[I", Cond.fieldLink RX13 157 "ChanceWorksModel" "nextNumbers" "[I", Cond.fieldLink RX13 235 "ChanceWorksModel" "newSigns" "[I", Cond.methodLink RX13 817 yX13_loadWorth, Cond.instanceMethod yX13_loadWorth, Cond.selects RX13 yX13_loadWorth yX13_loadWorth, Cond.code yX13_loadWorth cX13_loadWorth 5 none, Cond.constant RX13 735 (240000), Cond.constant RX13 736 (280000), Cond.methodLink RX13 727 yX13_add, Cond.instanceMethod yX13_add, Cond.selects RX13 yX13_add yX13_add, Cond.code yX13_add cX13_add 2 none, Cond.methodLink RX13 712 yX13_times, Cond.instanceMethod yX13_times, Cond.selects RX13 yX13_times yX13_times, Cond.code yX13_times cX13_times 14 none, Cond.methodLink RX13 680 yX13_trim, Cond.instanceMethod yX13_trim]
def wsX13_findWorth_r3 : List Cond := [Cond.selects RX13 yX13_trim yX13_trim, Cond.code yX13_trim cX13_trim 2 none, Cond.methodLink RX13 696 yX13_isZero, Cond.instanceMethod yX13_isZero, Cond.selects RX13 yX13_isZero yX13_isZero, Cond.code yX13_isZero cX13_isZero 2 (some .boolean), Cond.methodLink RX13 715 yX13_plus, Cond.instanceMethod yX13_plus, Cond.selects RX13 yX13_plus yX13_plus, Cond.code yX13_plus cX13_plus 7 none, Cond.constant RX13 679 (65535), Cond.methodLink RX13 683 yX13_compare, Cond.instanceMethod yX13_compare, Cond.selects RX13 yX13_compare yX13_compare, Cond.code yX13_compare cX13_compare 5 (some .int), Cond.methodLink RX13 718 yX13_minus, Cond.instanceMethod yX13_minus, Cond.selects RX13 yX13_minus yX13_minus, Cond.code yX13_minus cX13_minus 6 none, Cond.methodLink RX13 703 yX13_copy, Cond.instanceMethod yX13_copy, Cond.selects RX13 yX13_copy yX13_copy, Cond.code yX13_copy cX13_copy 4 none, Cond.methodLink RX13 721 yX13_reduce]
def wsX13_findWorth_r4 : List Cond := [Cond.instanceMethod yX13_reduce, Cond.selects RX13 yX13_reduce yX13_reduce, Cond.code yX13_reduce cX13_reduce 4 none, Cond.methodLink RX13 706 yX13_divide, Cond.instanceMethod yX13_divide, Cond.selects RX13 yX13_divide yX13_divide, Cond.code yX13_divide cX13_divide 8 none, Cond.constant RX13 686 (32768), Cond.methodLink RX13 687 yX13_shiftUp, Cond.instanceMethod yX13_shiftUp, Cond.selects RX13 yX13_shiftUp yX13_shiftUp, Cond.code yX13_shiftUp cX13_shiftUp 6 none, Cond.methodLink RX13 690 yX13_oneDigit, Cond.instanceMethod yX13_oneDigit, Cond.selects RX13 yX13_oneDigit yX13_oneDigit, Cond.code yX13_oneDigit cX13_oneDigit 21 (some .int), Cond.methodLink RX13 693 yX13_shiftDown, Cond.instanceMethod yX13_shiftDown, Cond.selects RX13 yX13_shiftDown yX13_shiftDown, Cond.code yX13_shiftDown cX13_shiftDown 5 none, Cond.methodLink RX13 870 yX13_isGreater, Cond.instanceMethod yX13_isGreater, Cond.selects RX13 yX13_isGreater yX13_isGreater, Cond.code yX13_isGreater cX13_isGreater 5 (some .boolean)]
def wsX13_findWorth_r5 : List Cond := [Cond.methodLink RX13 748 yX13_scale, Cond.instanceMethod yX13_scale, Cond.selects RX13 yX13_scale yX13_scale, Cond.code yX13_scale cX13_scale 5 none]
def wsX13_findWorth : List Cond := .code yX13_findWorth cX13_findWorth 4 none :: ((wsX13_findWorth_r1 ++ (wsX13_findWorth_r2 ++ (wsX13_findWorth_r3 ++ (wsX13_findWorth_r4 ++ wsX13_findWorth_r5)))) ++ wsX130 ++ (vx_atM "java/lang/ArrayIndexOutOfBoundsException" ["java/lang/IndexOutOfBoundsException", "java/lang/RuntimeException", "java/lang/Exception"]).filter goodWord)
def wsX13_best_r1 : List Cond := [Cond.fieldLink RX13 533 "ChanceWorksModel" "isExplored" "Z", Cond.fieldLink RX13 1 "ChanceWorksModel" "code" "I", Cond.fieldLink RX13 658 "ChanceWorksModel" "rings" "I", Cond.fieldLink RX13 542 "ChanceWorksModel" "states" "I", Cond.fieldLink RX13 198 "ChanceWorksModel" "isDone" "[Z", Cond.fieldLink RX13 172 "ChanceWorksModel" "plan" "[I", Cond.fieldLink RX13 166 "ChanceWorksModel" "isChoice" "[Z", Cond.fieldLink RX13 238 "ChanceWorksModel" "newPlan" "[I", Cond.fieldLink RX13 229 "ChanceWorksModel" "worthSigns" "[I", Cond.fieldLink RX13 235 "ChanceWorksModel" "newSigns" "[I", Cond.fieldLink RX13 226 "ChanceWorksModel" "worths" "[I", Cond.fieldLink RX13 232 "ChanceWorksModel" "newWorths" "[I", Cond.fieldLink RX13 539 "ChanceWorksModel" "isBest" "Z", Cond.fieldLink RX13 536 "ChanceWorksModel" "isSolved" "Z", Cond.methodLink RX13 873 yX13_isWorthDone, Cond.instanceMethod yX13_isWorthDone, Cond.selects RX13 yX13_isWorthDone yX13_isWorthDone, Cond.initialized RX13, Cond.code yX13_isWorthDone cX13_isWorthDone 4 (some .boolean), Cond.fieldLink RX13 151 "ChanceWorksModel" "nextStarts" "[I", Cond.fieldLink RX13 154 "ChanceWorksModel" "nextKinds" "[I", Cond.fieldLink RX13 157 "ChanceWorksModel" "nextNumbers" "[I", Cond.methodLink RX13 876 yX13_findWorth, Cond.instanceMethod yX13_findWorth]
def wsX13_best_r2 : List Cond := [Cond.selects RX13 yX13_findWorth yX13_findWorth, Cond.code yX13_findWorth cX13_findWorth 4 none, Cond.fieldLink RX13 160 "ChanceWorksModel" "nextWeights" "[I", Cond.fieldLink RX13 163 "ChanceWorksModel" "totals" "[I", Cond.fieldLink RX13 169 "ChanceWorksModel" "gains" "[I", Cond.methodLink RX13 867 yX13_takeNext, Cond.instanceMethod yX13_takeNext, Cond.selects RX13 yX13_takeNext yX13_takeNext, Cond.code yX13_takeNext cX13_takeNext 3 none, Cond.methodLink RX13 762 yX13_clearSum, Cond.instanceMethod yX13_clearSum, Cond.selects RX13 yX13_clearSum yX13_clearSum, Cond.code yX13_clearSum cX13_clearSum 1 none, Cond.fieldLink RX13 710 "ChanceWorksModel" "sign" "I", Cond.methodLink RX13 699 yX13_set, Cond.instanceMethod yX13_set, Cond.selects RX13 yX13_set yX13_set, Cond.code yX13_set cX13_set 7 none, Cond.fieldLink RX13 185 "ChanceWorksModel" "big" "[I", Cond.constant RX13 676 (40000), Cond.constantLong RX13 677 (65535), Cond.fieldLink RX13 188 "ChanceWorksModel" "lengths" "[I", Cond.methodLink RX13 864 yX13_loadNext, Cond.instanceMethod yX13_loadNext]
def wsX13_best_r3 : List Cond := [Cond.selects RX13 yX13_loadNext yX13_loadNext, Cond.code yX13_loadNext cX13_loadNext 2 (some .int), Cond.methodLink RX13 817 yX13_loadWorth, Cond.instanceMethod yX13_loadWorth, Cond.selects RX13 yX13_loadWorth yX13_loadWorth, Cond.code yX13_loadWorth cX13_loadWorth 5 none, Cond.constant RX13 735 (240000), Cond.constant RX13 736 (280000), Cond.methodLink RX13 727 yX13_add, Cond.instanceMethod yX13_add, Cond.selects RX13 yX13_add yX13_add, Cond.code yX13_add cX13_add 2 none, Cond.methodLink RX13 712 yX13_times, Cond.instanceMethod yX13_times, Cond.selects RX13 yX13_times yX13_times, Cond.code yX13_times cX13_times 14 none, Cond.methodLink RX13 680 yX13_trim, Cond.instanceMethod yX13_trim, Cond.selects RX13 yX13_trim yX13_trim, Cond.code yX13_trim cX13_trim 2 none, Cond.methodLink RX13 696 yX13_isZero, Cond.instanceMethod yX13_isZero, Cond.selects RX13 yX13_isZero yX13_isZero, Cond.code yX13_isZero cX13_isZero 2 (some .boolean)]
def wsX13_best_r4 : List Cond := [Cond.methodLink RX13 715 yX13_plus, Cond.instanceMethod yX13_plus, Cond.selects RX13 yX13_plus yX13_plus, Cond.code yX13_plus cX13_plus 7 none, Cond.constant RX13 679 (65535), Cond.methodLink RX13 683 yX13_compare, Cond.instanceMethod yX13_compare, Cond.selects RX13 yX13_compare yX13_compare, Cond.code yX13_compare cX13_compare 5 (some .int), Cond.methodLink RX13 718 yX13_minus, Cond.instanceMethod yX13_minus, Cond.selects RX13 yX13_minus yX13_minus, Cond.code yX13_minus cX13_minus 6 none, Cond.methodLink RX13 703 yX13_copy, Cond.instanceMethod yX13_copy, Cond.selects RX13 yX13_copy yX13_copy, Cond.code yX13_copy cX13_copy 4 none, Cond.methodLink RX13 721 yX13_reduce, Cond.instanceMethod yX13_reduce, Cond.selects RX13 yX13_reduce yX13_reduce, Cond.code yX13_reduce cX13_reduce 4 none, Cond.methodLink RX13 706 yX13_divide, Cond.instanceMethod yX13_divide, Cond.selects RX13 yX13_divide yX13_divide]
def wsX13_best_r5 : List Cond := [Cond.code yX13_divide cX13_divide 8 none, Cond.constant RX13 686 (32768), Cond.methodLink RX13 687 yX13_shiftUp, Cond.instanceMethod yX13_shiftUp, Cond.selects RX13 yX13_shiftUp yX13_shiftUp, Cond.code yX13_shiftUp cX13_shiftUp 6 none, Cond.methodLink RX13 690 yX13_oneDigit, Cond.instanceMethod yX13_oneDigit, Cond.selects RX13 yX13_oneDigit yX13_oneDigit, Cond.code yX13_oneDigit cX13_oneDigit 21 (some .int), Cond.methodLink RX13 693 yX13_shiftDown, Cond.instanceMethod yX13_shiftDown, Cond.selects RX13 yX13_shiftDown yX13_shiftDown, Cond.code yX13_shiftDown cX13_shiftDown 5 none, Cond.methodLink RX13 870 yX13_isGreater, Cond.instanceMethod yX13_isGreater, Cond.selects RX13 yX13_isGreater yX13_isGreater, Cond.code yX13_isGreater cX13_isGreater 5 (some .boolean), Cond.methodLink RX13 748 yX13_scale, Cond.instanceMethod yX13_scale, Cond.selects RX13 yX13_scale yX13_scale, Cond.code yX13_scale cX13_scale 5 none, Cond.methodLink RX13 781 yX13_isLong, Cond.instanceMethod yX13_isLong]
def wsX13_best_r6 : List Cond := [Cond.selects RX13 yX13_isLong yX13_isLong, Cond.code yX13_isLong cX13_isLong 2 (some .boolean), Cond.methodLink RX13 879 yX13_keepWorth, Cond.instanceMethod yX13_keepWorth, Cond.selects RX13 yX13_keepWorth yX13_keepWorth, Cond.code yX13_keepWorth cX13_keepWorth 4 none, Cond.constant RX13 733 (160000), Cond.constant RX13 734 (200000)]
def wsX13_best : List Cond := .code yX13_best cX13_best 4 (some .int) :: ((wsX13_best_r1 ++ (wsX13_best_r2 ++ (wsX13_best_r3 ++ (wsX13_best_r4 ++ (wsX13_best_r5 ++ wsX13_best_r6))))) ++ wsX130 ++ (vx_atM "java/lang/ArrayIndexOutOfBoundsException" ["java/lang/IndexOutOfBoundsException", "java/lang/RuntimeException", "java/lang/Exception"]).filter goodWord)
def wsX13_findHeavy : List Cond := .code yX13_findHeavy cX13_findHeavy 3 none :: ([.fieldLink RX13 545 "ChanceWorksModel" "endings" "I", .fieldLink RX13 241 "ChanceWorksModel" "isHeavy" "[Z", .fieldLink RX13 542 "ChanceWorksModel" "states" "I", .fieldLink RX13 151 "ChanceWorksModel" "nextStarts" "[I", .fieldLink RX13 154 "ChanceWorksModel" "nextKinds" "[I", .fieldLink RX13 157 "ChanceWorksModel" "nextNumbers" "[I", .methodLink RX13 793 yX13_isVisited, .instanceMethod yX13_isVisited, .selects RX13 yX13_isVisited yX13_isVisited, .initialized RX13, .code yX13_isVisited cX13_isVisited 2 (some .boolean), .fieldLink RX13 195 "ChanceWorksModel" "isOpen" "[Z", .fieldLink RX13 214 "ChanceWorksModel" "visits" "[I", .methodLink RX13 640 yX13_isTaken, .instanceMethod yX13_isTaken, .selects RX13 yX13_isTaken yX13_isTaken, .code yX13_isTaken cX13_isTaken 4 (some .boolean), .fieldLink RX13 166 "ChanceWorksModel" "isChoice" "[Z", .fieldLink RX13 172 "ChanceWorksModel" "plan" "[I"] ++ wsX130 ++ (vx_atM "java/lang/ArrayIndexOutOfBoundsException" ["java/lang/IndexOutOfBoundsException", "java/lang/RuntimeException", "java/lang/Exception"]).filter goodWord)
def wsX13_list : List Cond := .code yX13_list cX13_list 9 (some .int) :: ([.fieldLink RX13 545 "ChanceWorksModel" "endings" "I", .fieldLink RX13 241 "ChanceWorksModel" "isHeavy" "[Z", .methodLink RX13 882 yX13_told, .instanceMethod yX13_told, .selects RX13 yX13_told yX13_told, .initialized RX13, .code yX13_told cX13_told 3 (some .int), .fieldLink RX13 148 "ChanceWorksModel" "endingRows" "[I"] ++ wsX130 ++ (vx_atM "java/lang/ArrayIndexOutOfBoundsException" ["java/lang/IndexOutOfBoundsException", "java/lang/RuntimeException", "java/lang/Exception"]).filter goodWord)
def wsX13_isFree_r1 : List Cond := [Cond.fieldLink RX13 244 "ChanceWorksModel" "listA" "[I", Cond.fieldLink RX13 896 "ChanceWorksModel" "countA" "I", Cond.fieldLink RX13 247 "ChanceWorksModel" "listB" "[I", Cond.fieldLink RX13 899 "ChanceWorksModel" "countB" "I", Cond.fieldLink RX13 545 "ChanceWorksModel" "endings" "I", Cond.fieldLink RX13 241 "ChanceWorksModel" "isHeavy" "[Z", Cond.fieldLink RX13 542 "ChanceWorksModel" "states" "I", Cond.methodLink RX13 892 yX13_list, Cond.instanceMethod yX13_list, Cond.selects RX13 yX13_list yX13_list, Cond.initialized RX13, Cond.code yX13_list cX13_list 9 (some .int), Cond.methodLink RX13 882 yX13_told, Cond.instanceMethod yX13_told, Cond.selects RX13 yX13_told yX13_told, Cond.code yX13_told cX13_told 3 (some .int), Cond.fieldLink RX13 148 "ChanceWorksModel" "endingRows" "[I", Cond.methodLink RX13 902 yX13_isPairFree, Cond.instanceMethod yX13_isPairFree, Cond.selects RX13 yX13_isPairFree yX13_isPairFree, Cond.code yX13_isPairFree cX13_isPairFree 7 (some .boolean), Cond.methodLink RX13 885 yX13_weigh, Cond.instanceMethod yX13_weigh, Cond.selects RX13 yX13_weigh yX13_weigh]
def wsX13_isFree_r2 : List Cond := [Cond.code yX13_weigh cX13_weigh 11 none, Cond.fieldLink RX13 151 "ChanceWorksModel" "nextStarts" "[I", Cond.fieldLink RX13 157 "ChanceWorksModel" "nextNumbers" "[I", Cond.fieldLink RX13 154 "ChanceWorksModel" "nextKinds" "[I", Cond.methodLink RX13 762 yX13_clearSum, Cond.instanceMethod yX13_clearSum, Cond.selects RX13 yX13_clearSum yX13_clearSum, Cond.code yX13_clearSum cX13_clearSum 1 none, Cond.fieldLink RX13 710 "ChanceWorksModel" "sign" "I", Cond.methodLink RX13 699 yX13_set, Cond.instanceMethod yX13_set, Cond.selects RX13 yX13_set yX13_set, Cond.code yX13_set cX13_set 7 none, Cond.fieldLink RX13 185 "ChanceWorksModel" "big" "[I", Cond.constant RX13 676 (40000), Cond.constantLong RX13 677 (65535), Cond.fieldLink RX13 188 "ChanceWorksModel" "lengths" "[I", Cond.methodLink RX13 793 yX13_isVisited, Cond.instanceMethod yX13_isVisited, Cond.selects RX13 yX13_isVisited yX13_isVisited, Cond.code yX13_isVisited cX13_isVisited 2 (some .boolean), Cond.fieldLink RX13 195 "ChanceWorksModel" "isOpen" "[Z", Cond.fieldLink RX13 214 "ChanceWorksModel" "visits" "[I", Cond.methodLink RX13 640 yX13_isTaken]
def wsX13_isFree_r3 : List Cond := [Cond.instanceMethod yX13_isTaken, Cond.selects RX13 yX13_isTaken yX13_isTaken, Cond.code yX13_isTaken cX13_isTaken 4 (some .boolean), Cond.fieldLink RX13 166 "ChanceWorksModel" "isChoice" "[Z", Cond.fieldLink RX13 172 "ChanceWorksModel" "plan" "[I", Cond.methodLink RX13 799 yX13_addWeight, Cond.instanceMethod yX13_addWeight, Cond.selects RX13 yX13_addWeight yX13_addWeight, Cond.code yX13_addWeight cX13_addWeight 5 none, Cond.methodLink RX13 737 yX13_loadVisits, Cond.instanceMethod yX13_loadVisits, Cond.selects RX13 yX13_loadVisits yX13_loadVisits, Cond.code yX13_loadVisits cX13_loadVisits 4 none, Cond.constant RX13 735 (240000), Cond.constant RX13 736 (280000), Cond.methodLink RX13 740 yX13_weightOf, Cond.instanceMethod yX13_weightOf, Cond.selects RX13 yX13_weightOf yX13_weightOf, Cond.code yX13_weightOf cX13_weightOf 3 (some .long), Cond.fieldLink RX13 160 "ChanceWorksModel" "nextWeights" "[I", Cond.methodLink RX13 744 yX13_totalOf, Cond.instanceMethod yX13_totalOf, Cond.selects RX13 yX13_totalOf yX13_totalOf, Cond.code yX13_totalOf cX13_totalOf 2 (some .long)]
def wsX13_isFree_r4 : List Cond := [Cond.fieldLink RX13 163 "ChanceWorksModel" "totals" "[I", Cond.methodLink RX13 748 yX13_scale, Cond.instanceMethod yX13_scale, Cond.selects RX13 yX13_scale yX13_scale, Cond.code yX13_scale cX13_scale 5 none, Cond.methodLink RX13 712 yX13_times, Cond.instanceMethod yX13_times, Cond.selects RX13 yX13_times yX13_times, Cond.code yX13_times cX13_times 14 none, Cond.methodLink RX13 680 yX13_trim, Cond.instanceMethod yX13_trim, Cond.selects RX13 yX13_trim yX13_trim, Cond.code yX13_trim cX13_trim 2 none, Cond.methodLink RX13 703 yX13_copy, Cond.instanceMethod yX13_copy, Cond.selects RX13 yX13_copy yX13_copy, Cond.code yX13_copy cX13_copy 4 none, Cond.methodLink RX13 721 yX13_reduce, Cond.instanceMethod yX13_reduce, Cond.selects RX13 yX13_reduce yX13_reduce, Cond.code yX13_reduce cX13_reduce 4 none, Cond.methodLink RX13 696 yX13_isZero, Cond.instanceMethod yX13_isZero, Cond.selects RX13 yX13_isZero yX13_isZero]
def wsX13_isFree_r5 : List Cond := [Cond.code yX13_isZero cX13_isZero 2 (some .boolean), Cond.methodLink RX13 706 yX13_divide, Cond.instanceMethod yX13_divide, Cond.selects RX13 yX13_divide yX13_divide, Cond.code yX13_divide cX13_divide 8 none, Cond.constant RX13 686 (32768), Cond.methodLink RX13 683 yX13_compare, Cond.instanceMethod yX13_compare, Cond.selects RX13 yX13_compare yX13_compare, Cond.code yX13_compare cX13_compare 5 (some .int), Cond.methodLink RX13 687 yX13_shiftUp, Cond.instanceMethod yX13_shiftUp, Cond.selects RX13 yX13_shiftUp yX13_shiftUp, Cond.code yX13_shiftUp cX13_shiftUp 6 none, Cond.constant RX13 679 (65535), Cond.methodLink RX13 690 yX13_oneDigit, Cond.instanceMethod yX13_oneDigit, Cond.selects RX13 yX13_oneDigit yX13_oneDigit, Cond.code yX13_oneDigit cX13_oneDigit 21 (some .int), Cond.methodLink RX13 693 yX13_shiftDown, Cond.instanceMethod yX13_shiftDown, Cond.selects RX13 yX13_shiftDown yX13_shiftDown, Cond.code yX13_shiftDown cX13_shiftDown 5 none, Cond.methodLink RX13 727 yX13_add]
def wsX13_isFree_r6 : List Cond := [Cond.instanceMethod yX13_add, Cond.selects RX13 yX13_add yX13_add, Cond.code yX13_add cX13_add 2 none, Cond.methodLink RX13 715 yX13_plus, Cond.instanceMethod yX13_plus, Cond.selects RX13 yX13_plus yX13_plus, Cond.code yX13_plus cX13_plus 7 none, Cond.methodLink RX13 718 yX13_minus, Cond.instanceMethod yX13_minus, Cond.selects RX13 yX13_minus yX13_minus, Cond.code yX13_minus cX13_minus 6 none, Cond.methodLink RX13 889 yX13_product, Cond.instanceMethod yX13_product, Cond.selects RX13 yX13_product yX13_product, Cond.code yX13_product cX13_product 4 none]
def wsX13_isFree : List Cond := .code yX13_isFree cX13_isFree 9 (some .boolean) :: ((wsX13_isFree_r1 ++ (wsX13_isFree_r2 ++ (wsX13_isFree_r3 ++ (wsX13_isFree_r4 ++ (wsX13_isFree_r5 ++ wsX13_isFree_r6))))) ++ wsX130 ++ (vx_atM "java/lang/ArrayIndexOutOfBoundsException" ["java/lang/IndexOutOfBoundsException", "java/lang/RuntimeException", "java/lang/Exception"]).filter goodWord)
def wsX13_isGlobal : List Cond := .code yX13_isGlobal cX13_isGlobal 2 (some .boolean) :: ([.fieldLink RX13 333 "ChanceWorksModel" "vars" "I", .fieldLink RX13 369 "ChanceWorksModel" "cells" "I", .methodLink RX13 807 yX13_isSlot, .static yX13_isSlot, .initialized RX13, .code yX13_isSlot cX13_isSlot 2 (some .boolean)] ++ wsX130)
def wsX13_independent_r1 : List Cond := [Cond.fieldLink RX13 536 "ChanceWorksModel" "isSolved" "Z", Cond.fieldLink RX13 1 "ChanceWorksModel" "code" "I", Cond.methodLink RX13 906 yX13_isGlobal, Cond.instanceMethod yX13_isGlobal, Cond.selects RX13 yX13_isGlobal yX13_isGlobal, Cond.initialized RX13, Cond.code yX13_isGlobal cX13_isGlobal 2 (some .boolean), Cond.fieldLink RX13 333 "ChanceWorksModel" "vars" "I", Cond.fieldLink RX13 369 "ChanceWorksModel" "cells" "I", Cond.methodLink RX13 807 yX13_isSlot, Cond.static yX13_isSlot, Cond.code yX13_isSlot cX13_isSlot 2 (some .boolean), Cond.methodLink RX13 909 yX13_findHeavy, Cond.instanceMethod yX13_findHeavy, Cond.selects RX13 yX13_findHeavy yX13_findHeavy, Cond.code yX13_findHeavy cX13_findHeavy 3 none, Cond.fieldLink RX13 545 "ChanceWorksModel" "endings" "I", Cond.fieldLink RX13 241 "ChanceWorksModel" "isHeavy" "[Z", Cond.fieldLink RX13 542 "ChanceWorksModel" "states" "I", Cond.fieldLink RX13 151 "ChanceWorksModel" "nextStarts" "[I", Cond.fieldLink RX13 154 "ChanceWorksModel" "nextKinds" "[I", Cond.fieldLink RX13 157 "ChanceWorksModel" "nextNumbers" "[I", Cond.methodLink RX13 793 yX13_isVisited, Cond.instanceMethod yX13_isVisited]
def wsX13_independent_r2 : List Cond := [Cond.selects RX13 yX13_isVisited yX13_isVisited, Cond.code yX13_isVisited cX13_isVisited 2 (some .boolean), Cond.fieldLink RX13 195 "ChanceWorksModel" "isOpen" "[Z", Cond.fieldLink RX13 214 "ChanceWorksModel" "visits" "[I", Cond.methodLink RX13 640 yX13_isTaken, Cond.instanceMethod yX13_isTaken, Cond.selects RX13 yX13_isTaken yX13_isTaken, Cond.code yX13_isTaken cX13_isTaken 4 (some .boolean), Cond.fieldLink RX13 166 "ChanceWorksModel" "isChoice" "[Z", Cond.fieldLink RX13 172 "ChanceWorksModel" "plan" "[I", Cond.methodLink RX13 912 yX13_isFree, Cond.instanceMethod yX13_isFree, Cond.selects RX13 yX13_isFree yX13_isFree, Cond.code yX13_isFree cX13_isFree 9 (some .boolean), Cond.fieldLink RX13 244 "ChanceWorksModel" "listA" "[I", Cond.fieldLink RX13 896 "ChanceWorksModel" "countA" "I", Cond.fieldLink RX13 247 "ChanceWorksModel" "listB" "[I", Cond.fieldLink RX13 899 "ChanceWorksModel" "countB" "I", Cond.methodLink RX13 892 yX13_list, Cond.instanceMethod yX13_list, Cond.selects RX13 yX13_list yX13_list, Cond.code yX13_list cX13_list 9 (some .int), Cond.methodLink RX13 882 yX13_told, Cond.instanceMethod yX13_told]
def wsX13_independent_r3 : List Cond := [Cond.selects RX13 yX13_told yX13_told, Cond.code yX13_told cX13_told 3 (some .int), Cond.fieldLink RX13 148 "ChanceWorksModel" "endingRows" "[I", Cond.methodLink RX13 902 yX13_isPairFree, Cond.instanceMethod yX13_isPairFree, Cond.selects RX13 yX13_isPairFree yX13_isPairFree, Cond.code yX13_isPairFree cX13_isPairFree 7 (some .boolean), Cond.methodLink RX13 885 yX13_weigh, Cond.instanceMethod yX13_weigh, Cond.selects RX13 yX13_weigh yX13_weigh, Cond.code yX13_weigh cX13_weigh 11 none, Cond.methodLink RX13 762 yX13_clearSum, Cond.instanceMethod yX13_clearSum, Cond.selects RX13 yX13_clearSum yX13_clearSum, Cond.code yX13_clearSum cX13_clearSum 1 none, Cond.fieldLink RX13 710 "ChanceWorksModel" "sign" "I", Cond.methodLink RX13 699 yX13_set, Cond.instanceMethod yX13_set, Cond.selects RX13 yX13_set yX13_set, Cond.code yX13_set cX13_set 7 none, Cond.fieldLink RX13 185 "ChanceWorksModel" "big" "[I", Cond.constant RX13 676 (40000), Cond.constantLong RX13 677 (65535), Cond.fieldLink RX13 188 "ChanceWorksModel" "lengths" "[I"]
def wsX13_independent_r4 : List Cond := [Cond.methodLink RX13 799 yX13_addWeight, Cond.instanceMethod yX13_addWeight, Cond.selects RX13 yX13_addWeight yX13_addWeight, Cond.code yX13_addWeight cX13_addWeight 5 none, Cond.methodLink RX13 737 yX13_loadVisits, Cond.instanceMethod yX13_loadVisits, Cond.selects RX13 yX13_loadVisits yX13_loadVisits, Cond.code yX13_loadVisits cX13_loadVisits 4 none, Cond.constant RX13 735 (240000), Cond.constant RX13 736 (280000), Cond.methodLink RX13 740 yX13_weightOf, Cond.instanceMethod yX13_weightOf, Cond.selects RX13 yX13_weightOf yX13_weightOf, Cond.code yX13_weightOf cX13_weightOf 3 (some .long), Cond.fieldLink RX13 160 "ChanceWorksModel" "nextWeights" "[I", Cond.methodLink RX13 744 yX13_totalOf, Cond.instanceMethod yX13_totalOf, Cond.selects RX13 yX13_totalOf yX13_totalOf, Cond.code yX13_totalOf cX13_totalOf 2 (some .long), Cond.fieldLink RX13 163 "ChanceWorksModel" "totals" "[I", Cond.methodLink RX13 748 yX13_scale, Cond.instanceMethod yX13_scale, Cond.selects RX13 yX13_scale yX13_scale, Cond.code yX13_scale cX13_scale 5 none]
def wsX13_independent_r5 : List Cond := [Cond.methodLink RX13 712 yX13_times, Cond.instanceMethod yX13_times, Cond.selects RX13 yX13_times yX13_times, Cond.code yX13_times cX13_times 14 none, Cond.methodLink RX13 680 yX13_trim, Cond.instanceMethod yX13_trim, Cond.selects RX13 yX13_trim yX13_trim, Cond.code yX13_trim cX13_trim 2 none, Cond.methodLink RX13 703 yX13_copy, Cond.instanceMethod yX13_copy, Cond.selects RX13 yX13_copy yX13_copy, Cond.code yX13_copy cX13_copy 4 none, Cond.methodLink RX13 721 yX13_reduce, Cond.instanceMethod yX13_reduce, Cond.selects RX13 yX13_reduce yX13_reduce, Cond.code yX13_reduce cX13_reduce 4 none, Cond.methodLink RX13 696 yX13_isZero, Cond.instanceMethod yX13_isZero, Cond.selects RX13 yX13_isZero yX13_isZero, Cond.code yX13_isZero cX13_isZero 2 (some .boolean), Cond.methodLink RX13 706 yX13_divide, Cond.instanceMethod yX13_divide, Cond.selects RX13 yX13_divide yX13_divide, Cond.code yX13_divide cX13_divide 8 none]
def wsX13_independent_r6 : List Cond := [Cond.constant RX13 686 (32768), Cond.methodLink RX13 683 yX13_compare, Cond.instanceMethod yX13_compare, Cond.selects RX13 yX13_compare yX13_compare, Cond.code yX13_compare cX13_compare 5 (some .int), Cond.methodLink RX13 687 yX13_shiftUp, Cond.instanceMethod yX13_shiftUp, Cond.selects RX13 yX13_shiftUp yX13_shiftUp, Cond.code yX13_shiftUp cX13_shiftUp 6 none, Cond.constant RX13 679 (65535), Cond.methodLink RX13 690 yX13_oneDigit, Cond.instanceMethod yX13_oneDigit, Cond.selects RX13 yX13_oneDigit yX13_oneDigit, Cond.code yX13_oneDigit cX13_oneDigit 21 (some .int), Cond.methodLink RX13 693 yX13_shiftDown, Cond.instanceMethod yX13_shiftDown, Cond.selects RX13 yX13_shiftDown yX13_shiftDown, Cond.code yX13_shiftDown cX13_shiftDown 5 none, Cond.methodLink RX13 727 yX13_add, Cond.instanceMethod yX13_add, Cond.selects RX13 yX13_add yX13_add, Cond.code yX13_add cX13_add 2 none, Cond.methodLink RX13 715 yX13_plus, Cond.instanceMethod yX13_plus]
def wsX13_independent_r7 : List Cond := [Cond.selects RX13 yX13_plus yX13_plus, Cond.code yX13_plus cX13_plus 7 none, Cond.methodLink RX13 718 yX13_minus, Cond.instanceMethod yX13_minus, Cond.selects RX13 yX13_minus yX13_minus, Cond.code yX13_minus cX13_minus 6 none, Cond.methodLink RX13 889 yX13_product, Cond.instanceMethod yX13_product, Cond.selects RX13 yX13_product yX13_product, Cond.code yX13_product cX13_product 4 none]
def wsX13_independent : List Cond := .code yX13_independent cX13_independent 3 (some .boolean) :: ((wsX13_independent_r1 ++ (wsX13_independent_r2 ++ (wsX13_independent_r3 ++ (wsX13_independent_r4 ++ (wsX13_independent_r5 ++ (wsX13_independent_r6 ++ wsX13_independent_r7)))))) ++ wsX130 ++ (vx_atM "java/lang/ArrayIndexOutOfBoundsException" ["java/lang/IndexOutOfBoundsException", "java/lang/RuntimeException", "java/lang/Exception"]).filter goodWord)
def wsX13_given_r1 : List Cond := [Cond.fieldLink RX13 536 "ChanceWorksModel" "isSolved" "Z", Cond.fieldLink RX13 1 "ChanceWorksModel" "code" "I", Cond.fieldLink RX13 250 "ChanceWorksModel" "listC" "[I", Cond.methodLink RX13 906 yX13_isGlobal, Cond.instanceMethod yX13_isGlobal, Cond.selects RX13 yX13_isGlobal yX13_isGlobal, Cond.initialized RX13, Cond.code yX13_isGlobal cX13_isGlobal 2 (some .boolean), Cond.fieldLink RX13 333 "ChanceWorksModel" "vars" "I", Cond.fieldLink RX13 369 "ChanceWorksModel" "cells" "I", Cond.methodLink RX13 807 yX13_isSlot, Cond.static yX13_isSlot, Cond.code yX13_isSlot cX13_isSlot 2 (some .boolean), Cond.methodLink RX13 909 yX13_findHeavy, Cond.instanceMethod yX13_findHeavy, Cond.selects RX13 yX13_findHeavy yX13_findHeavy, Cond.code yX13_findHeavy cX13_findHeavy 3 none, Cond.fieldLink RX13 545 "ChanceWorksModel" "endings" "I", Cond.fieldLink RX13 241 "ChanceWorksModel" "isHeavy" "[Z", Cond.fieldLink RX13 542 "ChanceWorksModel" "states" "I", Cond.fieldLink RX13 151 "ChanceWorksModel" "nextStarts" "[I", Cond.fieldLink RX13 154 "ChanceWorksModel" "nextKinds" "[I", Cond.fieldLink RX13 157 "ChanceWorksModel" "nextNumbers" "[I", Cond.methodLink RX13 793 yX13_isVisited]
def wsX13_given_r2 : List Cond := [Cond.instanceMethod yX13_isVisited, Cond.selects RX13 yX13_isVisited yX13_isVisited, Cond.code yX13_isVisited cX13_isVisited 2 (some .boolean), Cond.fieldLink RX13 195 "ChanceWorksModel" "isOpen" "[Z", Cond.fieldLink RX13 214 "ChanceWorksModel" "visits" "[I", Cond.methodLink RX13 640 yX13_isTaken, Cond.instanceMethod yX13_isTaken, Cond.selects RX13 yX13_isTaken yX13_isTaken, Cond.code yX13_isTaken cX13_isTaken 4 (some .boolean), Cond.fieldLink RX13 166 "ChanceWorksModel" "isChoice" "[Z", Cond.fieldLink RX13 172 "ChanceWorksModel" "plan" "[I", Cond.methodLink RX13 892 yX13_list, Cond.instanceMethod yX13_list, Cond.selects RX13 yX13_list yX13_list, Cond.code yX13_list cX13_list 9 (some .int), Cond.methodLink RX13 882 yX13_told, Cond.instanceMethod yX13_told, Cond.selects RX13 yX13_told yX13_told, Cond.code yX13_told cX13_told 3 (some .int), Cond.fieldLink RX13 148 "ChanceWorksModel" "endingRows" "[I", Cond.methodLink RX13 912 yX13_isFree, Cond.instanceMethod yX13_isFree, Cond.selects RX13 yX13_isFree yX13_isFree, Cond.code yX13_isFree cX13_isFree 9 (some .boolean)]
def wsX13_given_r3 : List Cond := [Cond.fieldLink RX13 244 "ChanceWorksModel" "listA" "[I", Cond.fieldLink RX13 896 "ChanceWorksModel" "countA" "I", Cond.fieldLink RX13 247 "ChanceWorksModel" "listB" "[I", Cond.fieldLink RX13 899 "ChanceWorksModel" "countB" "I", Cond.methodLink RX13 902 yX13_isPairFree, Cond.instanceMethod yX13_isPairFree, Cond.selects RX13 yX13_isPairFree yX13_isPairFree, Cond.code yX13_isPairFree cX13_isPairFree 7 (some .boolean), Cond.methodLink RX13 885 yX13_weigh, Cond.instanceMethod yX13_weigh, Cond.selects RX13 yX13_weigh yX13_weigh, Cond.code yX13_weigh cX13_weigh 11 none, Cond.methodLink RX13 762 yX13_clearSum, Cond.instanceMethod yX13_clearSum, Cond.selects RX13 yX13_clearSum yX13_clearSum, Cond.code yX13_clearSum cX13_clearSum 1 none, Cond.fieldLink RX13 710 "ChanceWorksModel" "sign" "I", Cond.methodLink RX13 699 yX13_set, Cond.instanceMethod yX13_set, Cond.selects RX13 yX13_set yX13_set, Cond.code yX13_set cX13_set 7 none, Cond.fieldLink RX13 185 "ChanceWorksModel" "big" "[I", Cond.constant RX13 676 (40000), Cond.constantLong RX13 677 (65535)]
def wsX13_given_r4 : List Cond := [Cond.fieldLink RX13 188 "ChanceWorksModel" "lengths" "[I", Cond.methodLink RX13 799 yX13_addWeight, Cond.instanceMethod yX13_addWeight, Cond.selects RX13 yX13_addWeight yX13_addWeight, Cond.code yX13_addWeight cX13_addWeight 5 none, Cond.methodLink RX13 737 yX13_loadVisits, Cond.instanceMethod yX13_loadVisits, Cond.selects RX13 yX13_loadVisits yX13_loadVisits, Cond.code yX13_loadVisits cX13_loadVisits 4 none, Cond.constant RX13 735 (240000), Cond.constant RX13 736 (280000), Cond.methodLink RX13 740 yX13_weightOf, Cond.instanceMethod yX13_weightOf, Cond.selects RX13 yX13_weightOf yX13_weightOf, Cond.code yX13_weightOf cX13_weightOf 3 (some .long), Cond.fieldLink RX13 160 "ChanceWorksModel" "nextWeights" "[I", Cond.methodLink RX13 744 yX13_totalOf, Cond.instanceMethod yX13_totalOf, Cond.selects RX13 yX13_totalOf yX13_totalOf, Cond.code yX13_totalOf cX13_totalOf 2 (some .long), Cond.fieldLink RX13 163 "ChanceWorksModel" "totals" "[I", Cond.methodLink RX13 748 yX13_scale, Cond.instanceMethod yX13_scale, Cond.selects RX13 yX13_scale yX13_scale]
def wsX13_given_r5 : List Cond := [Cond.code yX13_scale cX13_scale 5 none, Cond.methodLink RX13 712 yX13_times, Cond.instanceMethod yX13_times, Cond.selects RX13 yX13_times yX13_times, Cond.code yX13_times cX13_times 14 none, Cond.methodLink RX13 680 yX13_trim, Cond.instanceMethod yX13_trim, Cond.selects RX13 yX13_trim yX13_trim, Cond.code yX13_trim cX13_trim 2 none, Cond.methodLink RX13 703 yX13_copy, Cond.instanceMethod yX13_copy, Cond.selects RX13 yX13_copy yX13_copy, Cond.code yX13_copy cX13_copy 4 none, Cond.methodLink RX13 721 yX13_reduce, Cond.instanceMethod yX13_reduce, Cond.selects RX13 yX13_reduce yX13_reduce, Cond.code yX13_reduce cX13_reduce 4 none, Cond.methodLink RX13 696 yX13_isZero, Cond.instanceMethod yX13_isZero, Cond.selects RX13 yX13_isZero yX13_isZero, Cond.code yX13_isZero cX13_isZero 2 (some .boolean), Cond.methodLink RX13 706 yX13_divide, Cond.instanceMethod yX13_divide, Cond.selects RX13 yX13_divide yX13_divide]
def wsX13_given_r6 : List Cond := [Cond.code yX13_divide cX13_divide 8 none, Cond.constant RX13 686 (32768), Cond.methodLink RX13 683 yX13_compare, Cond.instanceMethod yX13_compare, Cond.selects RX13 yX13_compare yX13_compare, Cond.code yX13_compare cX13_compare 5 (some .int), Cond.methodLink RX13 687 yX13_shiftUp, Cond.instanceMethod yX13_shiftUp, Cond.selects RX13 yX13_shiftUp yX13_shiftUp, Cond.code yX13_shiftUp cX13_shiftUp 6 none, Cond.constant RX13 679 (65535), Cond.methodLink RX13 690 yX13_oneDigit, Cond.instanceMethod yX13_oneDigit, Cond.selects RX13 yX13_oneDigit yX13_oneDigit, Cond.code yX13_oneDigit cX13_oneDigit 21 (some .int), Cond.methodLink RX13 693 yX13_shiftDown, Cond.instanceMethod yX13_shiftDown, Cond.selects RX13 yX13_shiftDown yX13_shiftDown, Cond.code yX13_shiftDown cX13_shiftDown 5 none, Cond.methodLink RX13 727 yX13_add, Cond.instanceMethod yX13_add, Cond.selects RX13 yX13_add yX13_add, Cond.code yX13_add cX13_add 2 none, Cond.methodLink RX13 715 yX13_plus]
def wsX13_given_r7 : List Cond := [Cond.instanceMethod yX13_plus, Cond.selects RX13 yX13_plus yX13_plus, Cond.code yX13_plus cX13_plus 7 none, Cond.methodLink RX13 718 yX13_minus, Cond.instanceMethod yX13_minus, Cond.selects RX13 yX13_minus yX13_minus, Cond.code yX13_minus cX13_minus 6 none, Cond.methodLink RX13 889 yX13_product, Cond.instanceMethod yX13_product, Cond.selects RX13 yX13_product yX13_product, Cond.code yX13_product cX13_product 4 none]
def wsX13_given : List Cond := .code yX13_given cX13_given 7 (some .boolean) :: ((wsX13_given_r1 ++ (wsX13_given_r2 ++ (wsX13_given_r3 ++ (wsX13_given_r4 ++ (wsX13_given_r5 ++ (wsX13_given_r6 ++ wsX13_given_r7)))))) ++ wsX130 ++ (vx_atM "java/lang/ArrayIndexOutOfBoundsException" ["java/lang/IndexOutOfBoundsException", "java/lang/RuntimeException", "java/lang/Exception"]).filter goodWord)
theorem dX13_thrown_0 : decode cX13_thrown 0 = .ok (.aload_n 0, 1) := by decide +kernel
theorem dX13_thrown_1 : decode cX13_thrown 1 = .ok (.getfield 1, 3) := by decide +kernel
theorem dX13_thrown_4 : decode cX13_thrown 4 = .ok (.ireturn, 1) := by decide +kernel
theorem dX13_within_0 : decode cX13_within 0 = .ok (.iload_n 0, 1) := by decide +kernel
theorem dX13_within_1 : decode cX13_within 1 = .ok (.iload_n 1, 1) := by decide +kernel
theorem dX13_within_2 : decode cX13_within 2 = .ok (.if_icmp .lt 12, 3) := by decide +kernel
theorem dX13_within_5 : decode cX13_within 5 = .ok (.iload_n 0, 1) := by decide +kernel
theorem dX13_within_6 : decode cX13_within 6 = .ok (.iload_n 2, 1) := by decide +kernel
theorem dX13_within_7 : decode cX13_within 7 = .ok (.if_icmp .gt 7, 3) := by decide +kernel
theorem dX13_within_10 : decode cX13_within 10 = .ok (.iconst 1, 1) := by decide +kernel
theorem dX13_within_11 : decode cX13_within 11 = .ok (.goto 4, 3) := by decide +kernel
theorem dX13_within_14 : decode cX13_within 14 = .ok (.iconst 0, 1) := by decide +kernel
theorem dX13_within_15 : decode cX13_within 15 = .ok (.ireturn, 1) := by decide +kernel
theorem dX13_end_0 : decode cX13_end 0 = .ok (.aload_n 0, 1) := by decide +kernel
theorem dX13_end_1 : decode cX13_end 1 = .ok (.iload_n 1, 1) := by decide +kernel
theorem dX13_end_2 : decode cX13_end 2 = .ok (.ifCond .lt 11, 3) := by decide +kernel
theorem dX13_end_5 : decode cX13_end 5 = .ok (.iload_n 1, 1) := by decide +kernel
theorem dX13_end_6 : decode cX13_end 6 = .ok (.aload_n 0, 1) := by decide +kernel
theorem dX13_end_7 : decode cX13_end 7 = .ok (.getfield 253, 3) := by decide +kernel
theorem dX13_end_10 : decode cX13_end 10 = .ok (.if_icmp .le 7, 3) := by decide +kernel
theorem dX13_end_13 : decode cX13_end 13 = .ok (.iconst 1, 1) := by decide +kernel
theorem dX13_end_14 : decode cX13_end 14 = .ok (.goto 4, 3) := by decide +kernel
theorem dX13_end_17 : decode cX13_end 17 = .ok (.iconst 0, 1) := by decide +kernel
theorem dX13_end_18 : decode cX13_end 18 = .ok (.putfield 1, 3) := by decide +kernel
theorem dX13_end_21 : decode cX13_end 21 = .ok (.aload_n 0, 1) := by decide +kernel
theorem dX13_end_22 : decode cX13_end 22 = .ok (.aload_n 0, 1) := by decide +kernel
theorem dX13_end_23 : decode cX13_end 23 = .ok (.getfield 1, 3) := by decide +kernel
theorem dX13_end_26 : decode cX13_end 26 = .ok (.ifCond .le 10, 3) := by decide +kernel
theorem dX13_end_29 : decode cX13_end 29 = .ok (.aload_n 0, 1) := by decide +kernel
theorem dX13_end_30 : decode cX13_end 30 = .ok (.getfield 253, 3) := by decide +kernel
theorem dX13_end_33 : decode cX13_end 33 = .ok (.goto 4, 3) := by decide +kernel
theorem dX13_end_36 : decode cX13_end 36 = .ok (.iload_n 1, 1) := by decide +kernel
theorem dX13_end_37 : decode cX13_end 37 = .ok (.putfield 253, 3) := by decide +kernel
theorem dX13_end_40 : decode cX13_end 40 = .ok (.return_, 1) := by decide +kernel
theorem dX13_fault_0 : decode cX13_fault 0 = .ok (.aload_n 0, 1) := by decide +kernel
theorem dX13_fault_1 : decode cX13_fault 1 = .ok (.iconst 0, 1) := by decide +kernel
theorem dX13_fault_2 : decode cX13_fault 2 = .ok (.putfield 1, 3) := by decide +kernel
theorem dX13_fault_5 : decode cX13_fault 5 = .ok (.aload_n 0, 1) := by decide +kernel
theorem dX13_fault_6 : decode cX13_fault 6 = .ok (.getfield 526, 3) := by decide +kernel
theorem dX13_fault_9 : decode cX13_fault 9 = .ok (.ireturn, 1) := by decide +kernel
set_option maxRecDepth 20000 in
theorem ggX13_explore_X13_within : GoodIn wsX13_explore wsX13_within := goodIn_r _ [14] (by decide +kernel) (by decide +kernel)
set_option maxRecDepth 20000 in
theorem gX13_explore_X13_within : GoodIn wsX13_explore (va_wsS RX13 362 yX13_within wsX13_within) := goodIn_app (goodIn_of _ (by decide +kernel)) ggX13_explore_X13_within
set_option maxRecDepth 20000 in
theorem ggX13_explore_X13_begin : GoodIn wsX13_explore wsX13_begin := goodIn_ca (goodIn_r _ [18, 19, 20, 21, 22, 23, 24, 25, 26, 27, 28, 13, 29, 30, 31, 32, 33, 34, 35, 36, 37, 38, 39, 40, 41, 42, 43, 308, 309, 310, 311, 312, 313, 314, 315, 316, 317, 318, 319, 320, 321, 322, 323, 324, 325, 326, 327, 328, 329, 330, 331, 332, 333, 334, 335, 336, 337, 338, 339, 340, 341, 342, 343, 344, 345, 346, 347, 348, 349, 350, 351, 352, 353, 354, 355, 356, 357, 358, 359, 360, 361, 362, 363, 364, 365, 366, 367, 368, 369, 370, 371, 372, 373, 374, 375, 376, 377, 378, 379, 380, 381, 382, 383, 384, 385, 386, 387, 388, 389, 390, 391, 392, 393, 394, 395, 396, 397, 398, 399, 400, 401, 402, 403, 404, 405, 406, 407, 408, 409, 410, 411, 412, 413, 414, 415, 416, 417, 418, 419, 420, 421, 422, 423, 424, 425, 426, 427, 428, 429, 430, 431, 432, 433] (by decide +kernel) (by decide +kernel)) (goodIn_sub (fun _ h => List.mem_cons_of_mem _ (List.mem_append_right _ h)) (by decide +kernel))
set_option maxRecDepth 20000 in
theorem gX13_explore_X13_begin : GoodIn wsX13_explore (wsV RX13 631 RX13 yX13_begin wsX13_begin) := goodIn_app (goodIn_of _ (by decide +kernel)) ggX13_explore_X13_begin
set_option maxRecDepth 20000 in
theorem ggX13_explore_X13_stateNumber : GoodIn wsX13_explore wsX13_stateNumber := goodIn_ca (goodIn_r _ [47, 4, 3, 48, 49, 50, 51, 52, 53, 13, 54, 55, 56, 57, 58, 22, 19, 30, 23, 59, 60, 61, 62, 308, 309, 310, 311, 312, 313, 314, 315, 316, 317, 318, 319, 320, 321, 322, 323, 324, 325, 326, 327, 328, 329, 330, 331, 332, 333, 334, 335, 336, 337, 338, 339, 340, 341, 342, 343, 344, 345, 346, 347, 348, 349, 350, 351, 352, 353, 354, 355, 356, 357, 358, 359, 360, 361, 362, 363, 364, 365, 366, 367, 368, 369, 370, 371, 372, 373, 374, 375, 376, 377, 378, 379, 380, 381, 382, 383, 384, 385, 386, 387, 388, 389, 390, 391, 392, 393, 394, 395, 396, 397, 398, 399, 400, 401, 402, 403, 404, 405, 406, 407, 408, 409, 410, 411, 412, 413, 414, 415, 416, 417, 418, 419, 420, 421, 422, 423, 424, 425, 426, 427, 428, 429, 430, 431, 432, 433] (by decide +kernel) (by decide +kernel)) (goodIn_sub (fun _ h => List.mem_cons_of_mem _ (List.mem_append_right _ h)) (by decide +kernel))
set_option maxRecDepth 20000 in
theorem gX13_explore_X13_stateNumber : GoodIn wsX13_explore (wsV RX13 612 RX13 yX13_stateNumber wsX13_stateNumber) := goodIn_app (goodIn_of _ (by decide +kernel)) ggX13_explore_X13_stateNumber
set_option maxRecDepth 20000 in
theorem ggX13_explore_X13_endingNumber : GoodIn wsX13_explore wsX13_endingNumber := goodIn_ca (goodIn_r _ [66, 5, 67, 35, 19, 308, 309, 310, 311, 312, 313, 314, 315, 316, 317, 318, 319, 320, 321, 322, 323, 324, 325, 326, 327, 328, 329, 330, 331, 332, 333, 334, 335, 336, 337, 338, 339, 340, 341, 342, 343, 344, 345, 346, 347, 348, 349, 350, 351, 352, 353, 354, 355, 356, 357, 358, 359, 360, 361, 362, 363, 364, 365, 366, 367, 368, 369, 370, 371, 372, 373, 374, 375, 376, 377, 378, 379, 380, 381, 382, 383, 384, 385, 386, 387, 388, 389, 390, 391, 392, 393, 394, 395, 396, 397, 398, 399, 400, 401, 402, 403, 404, 405, 406, 407, 408, 409, 410, 411, 412, 413, 414, 415, 416, 417, 418, 419, 420, 421, 422, 423, 424, 425, 426, 427, 428, 429, 430, 431, 432, 433] (by decide +kernel) (by decide +kernel)) (goodIn_sub (fun _ h => List.mem_cons_of_mem _ (List.mem_append_right _ h)) (by decide +kernel))
set_option maxRecDepth 20000 in
theorem gX13_explore_X13_endingNumber : GoodIn wsX13_explore (wsV RX13 615 RX13 yX13_endingNumber wsX13_endingNumber) := goodIn_app (goodIn_of _ (by decide +kernel)) ggX13_explore_X13_endingNumber
set_option maxRecDepth 20000 in
theorem ggX13_explore_X13_expand : GoodIn wsX13_explore wsX13_expand := goodIn_ca (goodIn_r _ [71, 6, 72, 73, 74, 75, 76, 77, 78, 79, 80, 81, 82, 13, 83, 49, 22, 19, 30, 23, 84, 85, 86, 87, 88, 89, 90, 91, 92, 37, 93, 39, 94, 95, 96, 97, 98, 99, 38, 100, 101, 102, 24, 103, 104, 105, 106, 107, 108, 109, 110, 111, 112, 113, 114, 115, 116, 117, 118, 119, 120, 121, 122, 123, 124, 125, 126, 127, 128, 129, 130, 131, 132, 133, 134, 135, 136, 137, 138, 139, 140, 141, 142, 143, 144, 145, 146, 147, 148, 149, 150, 151, 152, 153, 154, 155, 156, 157, 158, 159, 160, 161, 162, 163, 164, 165, 166, 167, 168, 169, 170, 171, 172, 173, 174, 175, 176, 177, 178, 179, 180, 181, 182, 183, 184, 185, 186, 187, 188, 189, 20, 190, 191, 192, 193, 194, 195, 196, 197, 198, 199, 200, 201, 202, 203, 204, 205, 206, 207, 208, 209, 210, 211, 212, 213, 214, 215, 216, 217, 218, 219, 220, 221, 222, 223, 224, 225, 226, 227, 228, 229, 230, 231, 232, 233, 234, 35, 26, 27, 28, 29, 31, 32, 33, 34, 36, 40, 41, 42, 43, 235, 236, 237, 238, 239, 240, 241, 242, 243, 244, 245, 246, 247, 248, 249, 250, 251, 252, 253, 254, 255, 256, 11, 12, 14, 257, 258, 259, 260, 261, 262, 263, 264, 265, 266, 267, 44, 45, 46, 47, 4, 3, 48, 50, 51, 52, 53, 54, 55, 56, 57, 58, 59, 60, 61, 62, 63, 64, 65, 66, 5, 67, 268, 269, 270, 271, 308, 309, 310, 311, 312, 313, 314, 315, 316, 317, 318, 319, 320, 321, 322, 323, 324, 325, 326, 327, 328, 329, 330, 331, 332, 333, 334, 335, 336, 337, 338, 339, 340, 341, 342, 343, 344, 345, 346, 347, 348, 349, 350, 351, 352, 353, 354, 355, 356, 357, 358, 359, 360, 361, 362, 363, 364, 365, 366, 367, 368, 369, 370, 371, 372, 373, 374, 375, 376, 377, 378, 379, 380, 381, 382, 383, 384, 385, 386, 387, 388, 389, 390, 391, 392, 393, 394, 395, 396, 397, 398, 399, 400, 401, 402, 403, 404, 405, 406, 407, 408, 409, 410, 411, 412, 413, 414, 415, 416, 417, 418, 419, 420, 421, 422, 423, 424, 425, 426, 427, 428, 429, 430, 431, 432, 433] (by decide +kernel) (by decide +kernel)) (goodIn_sub (fun _ h => List.mem_cons_of_mem _ (List.mem_append_right _ h)) (by decide +kernel))
set_option maxRecDepth 20000 in
theorem gX13_explore_X13_expand : GoodIn wsX13_explore (wsV RX13 634 RX13 yX13_expand wsX13_expand) := goodIn_app (goodIn_of _ (by decide +kernel)) ggX13_explore_X13_expand
set_option maxRecDepth 20000 in
theorem ggX13_explore_X13_findRings : GoodIn wsX13_explore wsX13_findRings := goodIn_ca (goodIn_r _ [275, 276, 277, 278, 4, 279, 280, 281, 13, 282, 283, 72, 266, 265, 284, 285, 286, 287, 73, 10, 288, 289, 290, 291, 292, 293, 294, 295, 296, 297, 298, 299, 300, 301, 302, 303, 304, 305, 306, 307, 308, 309, 310, 311, 312, 313, 314, 315, 316, 317, 318, 319, 320, 321, 322, 323, 324, 325, 326, 327, 328, 329, 330, 331, 332, 333, 334, 335, 336, 337, 338, 339, 340, 341, 342, 343, 344, 345, 346, 347, 348, 349, 350, 351, 352, 353, 354, 355, 356, 357, 358, 359, 360, 361, 362, 363, 364, 365, 366, 367, 368, 369, 370, 371, 372, 373, 374, 375, 376, 377, 378, 379, 380, 381, 382, 383, 384, 385, 386, 387, 388, 389, 390, 391, 392, 393, 394, 395, 396, 397, 398, 399, 400, 401, 402, 403, 404, 405, 406, 407, 408, 409, 410, 411, 412, 413, 414, 415, 416, 417, 418, 419, 420, 421, 422, 423, 424, 425, 426, 427, 428, 429, 430, 431, 432, 433] (by decide +kernel) (by decide +kernel)) (goodIn_sub (fun _ h => List.mem_cons_of_mem _ (List.mem_append_right _ h)) (by decide +kernel))
set_option maxRecDepth 20000 in
theorem gX13_explore_X13_findRings : GoodIn wsX13_explore (wsV RX13 637 RX13 yX13_findRings wsX13_findRings) := goodIn_app (goodIn_of _ (by decide +kernel)) ggX13_explore_X13_findRings
theorem dX13_explore_0 : decode cX13_explore 0 = .ok (.aload_n 0, 1) := by decide +kernel
theorem dX13_explore_1 : decode cX13_explore 1 = .ok (.aload_n 0, 1) := by decide +kernel
theorem dX13_explore_2 : decode cX13_explore 2 = .ok (.getfield 529, 3) := by decide +kernel
theorem dX13_explore_5 : decode cX13_explore 5 = .ok (.ifCond .ne 7, 3) := by decide +kernel
theorem dX13_explore_8 : decode cX13_explore 8 = .ok (.iconst 1, 1) := by decide +kernel
theorem dX13_explore_9 : decode cX13_explore 9 = .ok (.goto 19, 3) := by decide +kernel
theorem dX13_explore_12 : decode cX13_explore 12 = .ok (.iload_n 1, 1) := by decide +kernel
theorem dX13_explore_13 : decode cX13_explore 13 = .ok (.iconst 1, 1) := by decide +kernel
theorem dX13_explore_14 : decode cX13_explore 14 = .ok (.sipush 1000, 3) := by decide +kernel
theorem dX13_explore_17 : decode cX13_explore 17 = .ok (.invokestatic 362, 3) := by decide +kernel
theorem dX13_explore_20 : decode cX13_explore 20 = .ok (.ifCond .ne 7, 3) := by decide +kernel
theorem dX13_explore_23 : decode cX13_explore 23 = .ok (.iconst 2, 1) := by decide +kernel
theorem dX13_explore_24 : decode cX13_explore 24 = .ok (.goto 4, 3) := by decide +kernel
theorem dX13_explore_27 : decode cX13_explore 27 = .ok (.iconst 0, 1) := by decide +kernel
theorem dX13_explore_28 : decode cX13_explore 28 = .ok (.putfield 1, 3) := by decide +kernel
theorem dX13_explore_31 : decode cX13_explore 31 = .ok (.aload_n 0, 1) := by decide +kernel
theorem dX13_explore_32 : decode cX13_explore 32 = .ok (.getfield 1, 3) := by decide +kernel
theorem dX13_explore_35 : decode cX13_explore 35 = .ok (.ifCond .le 5, 3) := by decide +kernel
theorem dX13_explore_38 : decode cX13_explore 38 = .ok (.iconst 0, 1) := by decide +kernel
theorem dX13_explore_39 : decode cX13_explore 39 = .ok (.ireturn, 1) := by decide +kernel
theorem dX13_explore_40 : decode cX13_explore 40 = .ok (.aload_n 0, 1) := by decide +kernel
theorem dX13_explore_41 : decode cX13_explore 41 = .ok (.iload_n 1, 1) := by decide +kernel
theorem dX13_explore_42 : decode cX13_explore 42 = .ok (.putfield 609, 3) := by decide +kernel
theorem dX13_explore_45 : decode cX13_explore 45 = .ok (.aload_n 0, 1) := by decide +kernel
theorem dX13_explore_46 : decode cX13_explore 46 = .ok (.iconst 0, 1) := by decide +kernel
theorem dX13_explore_47 : decode cX13_explore 47 = .ok (.putfield 542, 3) := by decide +kernel
theorem dX13_explore_50 : decode cX13_explore 50 = .ok (.aload_n 0, 1) := by decide +kernel
theorem dX13_explore_51 : decode cX13_explore 51 = .ok (.iconst 0, 1) := by decide +kernel
theorem dX13_explore_52 : decode cX13_explore 52 = .ok (.putfield 545, 3) := by decide +kernel
theorem dX13_explore_55 : decode cX13_explore 55 = .ok (.aload_n 0, 1) := by decide +kernel
theorem dX13_explore_56 : decode cX13_explore 56 = .ok (.iconst 0, 1) := by decide +kernel
theorem dX13_explore_57 : decode cX13_explore 57 = .ok (.putfield 548, 3) := by decide +kernel
theorem dX13_explore_60 : decode cX13_explore 60 = .ok (.aload_n 0, 1) := by decide +kernel
theorem dX13_explore_61 : decode cX13_explore 61 = .ok (.iconst 0, 1) := by decide +kernel
theorem dX13_explore_62 : decode cX13_explore 62 = .ok (.putfield 536, 3) := by decide +kernel
theorem dX13_explore_65 : decode cX13_explore 65 = .ok (.aload_n 0, 1) := by decide +kernel
theorem dX13_explore_66 : decode cX13_explore 66 = .ok (.iconst 0, 1) := by decide +kernel
theorem dX13_explore_67 : decode cX13_explore 67 = .ok (.putfield 539, 3) := by decide +kernel
theorem dX13_explore_70 : decode cX13_explore 70 = .ok (.iconst 1, 1) := by decide +kernel
theorem dX13_explore_71 : decode cX13_explore 71 = .ok (.istore_n 2, 1) := by decide +kernel
theorem dX13_explore_72 : decode cX13_explore 72 = .ok (.aload_n 0, 1) := by decide +kernel
theorem dX13_explore_73 : decode cX13_explore 73 = .ok (.invokevirtual 631, 3) := by decide +kernel
theorem dX13_explore_76 : decode cX13_explore 76 = .ok (.ifCond .ne 20, 3) := by decide +kernel
theorem dX13_explore_79 : decode cX13_explore 79 = .ok (.aload_n 0, 1) := by decide +kernel
theorem dX13_explore_80 : decode cX13_explore 80 = .ok (.invokevirtual 612, 3) := by decide +kernel
theorem dX13_explore_83 : decode cX13_explore 83 = .ok (.iconst (-1), 1) := by decide +kernel
theorem dX13_explore_84 : decode cX13_explore 84 = .ok (.if_icmp .eq 7, 3) := by decide +kernel
theorem dX13_explore_87 : decode cX13_explore 87 = .ok (.iconst 1, 1) := by decide +kernel
theorem dX13_explore_88 : decode cX13_explore 88 = .ok (.goto 4, 3) := by decide +kernel
theorem dX13_explore_91 : decode cX13_explore 91 = .ok (.iconst 0, 1) := by decide +kernel
theorem dX13_explore_92 : decode cX13_explore 92 = .ok (.istore_n 2, 1) := by decide +kernel
theorem dX13_explore_93 : decode cX13_explore 93 = .ok (.goto 17, 3) := by decide +kernel
theorem dX13_explore_96 : decode cX13_explore 96 = .ok (.aload_n 0, 1) := by decide +kernel
theorem dX13_explore_97 : decode cX13_explore 97 = .ok (.invokevirtual 615, 3) := by decide +kernel
theorem dX13_explore_100 : decode cX13_explore 100 = .ok (.iconst (-1), 1) := by decide +kernel
theorem dX13_explore_101 : decode cX13_explore 101 = .ok (.if_icmp .eq 7, 3) := by decide +kernel
theorem dX13_explore_104 : decode cX13_explore 104 = .ok (.iconst 1, 1) := by decide +kernel
theorem dX13_explore_105 : decode cX13_explore 105 = .ok (.goto 4, 3) := by decide +kernel
theorem dX13_explore_108 : decode cX13_explore 108 = .ok (.iconst 0, 1) := by decide +kernel
theorem dX13_explore_109 : decode cX13_explore 109 = .ok (.istore_n 2, 1) := by decide +kernel
theorem dX13_explore_110 : decode cX13_explore 110 = .ok (.iconst 0, 1) := by decide +kernel
theorem dX13_explore_111 : decode cX13_explore 111 = .ok (.istore_n 3, 1) := by decide +kernel
theorem dX13_explore_112 : decode cX13_explore 112 = .ok (.iload_n 3, 1) := by decide +kernel
theorem dX13_explore_113 : decode cX13_explore 113 = .ok (.aload_n 0, 1) := by decide +kernel
theorem dX13_explore_114 : decode cX13_explore 114 = .ok (.getfield 542, 3) := by decide +kernel
theorem dX13_explore_117 : decode cX13_explore 117 = .ok (.if_icmp .ge 19, 3) := by decide +kernel
theorem dX13_explore_120 : decode cX13_explore 120 = .ok (.iload_n 2, 1) := by decide +kernel
theorem dX13_explore_121 : decode cX13_explore 121 = .ok (.ifCond .eq 15, 3) := by decide +kernel
theorem dX13_explore_124 : decode cX13_explore 124 = .ok (.aload_n 0, 1) := by decide +kernel
theorem dX13_explore_125 : decode cX13_explore 125 = .ok (.iload_n 3, 1) := by decide +kernel
theorem dX13_explore_126 : decode cX13_explore 126 = .ok (.invokevirtual 634, 3) := by decide +kernel
theorem dX13_explore_129 : decode cX13_explore 129 = .ok (.istore_n 2, 1) := by decide +kernel
theorem dX13_explore_130 : decode cX13_explore 130 = .ok (.iinc 3 1, 3) := by decide +kernel
theorem dX13_explore_133 : decode cX13_explore 133 = .ok (.goto (-21), 3) := by decide +kernel
theorem dX13_explore_136 : decode cX13_explore 136 = .ok (.aload_n 0, 1) := by decide +kernel
theorem dX13_explore_137 : decode cX13_explore 137 = .ok (.iload_n 2, 1) := by decide +kernel
theorem dX13_explore_138 : decode cX13_explore 138 = .ok (.putfield 533, 3) := by decide +kernel
theorem dX13_explore_141 : decode cX13_explore 141 = .ok (.iload_n 2, 1) := by decide +kernel
theorem dX13_explore_142 : decode cX13_explore 142 = .ok (.ifCond .ne 20, 3) := by decide +kernel
theorem dX13_explore_145 : decode cX13_explore 145 = .ok (.aload_n 0, 1) := by decide +kernel
theorem dX13_explore_146 : decode cX13_explore 146 = .ok (.iconst 0, 1) := by decide +kernel
theorem dX13_explore_147 : decode cX13_explore 147 = .ok (.putfield 542, 3) := by decide +kernel
theorem dX13_explore_150 : decode cX13_explore 150 = .ok (.aload_n 0, 1) := by decide +kernel
theorem dX13_explore_151 : decode cX13_explore 151 = .ok (.iconst 0, 1) := by decide +kernel
theorem dX13_explore_152 : decode cX13_explore 152 = .ok (.putfield 545, 3) := by decide +kernel
theorem dX13_explore_155 : decode cX13_explore 155 = .ok (.aload_n 0, 1) := by decide +kernel
theorem dX13_explore_156 : decode cX13_explore 156 = .ok (.iconst 0, 1) := by decide +kernel
theorem dX13_explore_157 : decode cX13_explore 157 = .ok (.putfield 548, 3) := by decide +kernel
theorem dX13_explore_160 : decode cX13_explore 160 = .ok (.iconst (-1), 1) := by decide +kernel
theorem dX13_explore_161 : decode cX13_explore 161 = .ok (.ireturn, 1) := by decide +kernel
theorem dX13_explore_162 : decode cX13_explore 162 = .ok (.iconst 0, 1) := by decide +kernel
theorem dX13_explore_163 : decode cX13_explore 163 = .ok (.istore_n 3, 1) := by decide +kernel
theorem dX13_explore_164 : decode cX13_explore 164 = .ok (.iload_n 3, 1) := by decide +kernel
theorem dX13_explore_165 : decode cX13_explore 165 = .ok (.aload_n 0, 1) := by decide +kernel
theorem dX13_explore_166 : decode cX13_explore 166 = .ok (.getfield 542, 3) := by decide +kernel
theorem dX13_explore_169 : decode cX13_explore 169 = .ok (.if_icmp .ge 16, 3) := by decide +kernel
theorem dX13_explore_172 : decode cX13_explore 172 = .ok (.aload_n 0, 1) := by decide +kernel
theorem dX13_explore_173 : decode cX13_explore 173 = .ok (.getfield 172, 3) := by decide +kernel
theorem dX13_explore_176 : decode cX13_explore 176 = .ok (.iload_n 3, 1) := by decide +kernel
theorem dX13_explore_177 : decode cX13_explore 177 = .ok (.iconst 0, 1) := by decide +kernel
theorem dX13_explore_178 : decode cX13_explore 178 = .ok (.iastore, 1) := by decide +kernel
theorem dX13_explore_179 : decode cX13_explore 179 = .ok (.iinc 3 1, 3) := by decide +kernel
theorem dX13_explore_182 : decode cX13_explore 182 = .ok (.goto (-18), 3) := by decide +kernel
theorem dX13_explore_185 : decode cX13_explore 185 = .ok (.aload_n 0, 1) := by decide +kernel
theorem dX13_explore_186 : decode cX13_explore 186 = .ok (.invokevirtual 637, 3) := by decide +kernel
theorem dX13_explore_189 : decode cX13_explore 189 = .ok (.aload_n 0, 1) := by decide +kernel
theorem dX13_explore_190 : decode cX13_explore 190 = .ok (.getfield 542, 3) := by decide +kernel
theorem dX13_explore_193 : decode cX13_explore 193 = .ok (.ireturn, 1) := by decide +kernel
set_option maxRecDepth 20000 in
theorem ggX13_count_X13_within : GoodIn wsX13_count wsX13_within := goodIn_r _ [19] (by decide +kernel) (by decide +kernel)
set_option maxRecDepth 20000 in
theorem gX13_count_X13_within : GoodIn wsX13_count (va_wsS RX13 362 yX13_within wsX13_within) := goodIn_app (goodIn_of _ (by decide +kernel)) ggX13_count_X13_within
theorem dX13_count_0 : decode cX13_count 0 = .ok (.aload_n 0, 1) := by decide +kernel
theorem dX13_count_1 : decode cX13_count 1 = .ok (.iload_n 1, 1) := by decide +kernel
theorem dX13_count_2 : decode cX13_count 2 = .ok (.iconst 0, 1) := by decide +kernel
theorem dX13_count_3 : decode cX13_count 3 = .ok (.bipush 11, 2) := by decide +kernel
theorem dX13_count_5 : decode cX13_count 5 = .ok (.invokestatic 362, 3) := by decide +kernel
theorem dX13_count_8 : decode cX13_count 8 = .ok (.ifCond .eq 7, 3) := by decide +kernel
theorem dX13_count_11 : decode cX13_count 11 = .ok (.iconst 0, 1) := by decide +kernel
theorem dX13_count_12 : decode cX13_count 12 = .ok (.goto 4, 3) := by decide +kernel
theorem dX13_count_15 : decode cX13_count 15 = .ok (.iconst 1, 1) := by decide +kernel
theorem dX13_count_16 : decode cX13_count 16 = .ok (.putfield 1, 3) := by decide +kernel
theorem dX13_count_19 : decode cX13_count 19 = .ok (.aload_n 0, 1) := by decide +kernel
theorem dX13_count_20 : decode cX13_count 20 = .ok (.getfield 1, 3) := by decide +kernel
theorem dX13_count_23 : decode cX13_count 23 = .ok (.ifCond .le 5, 3) := by decide +kernel
theorem dX13_count_26 : decode cX13_count 26 = .ok (.iconst 0, 1) := by decide +kernel
theorem dX13_count_27 : decode cX13_count 27 = .ok (.ireturn, 1) := by decide +kernel
theorem dX13_count_28 : decode cX13_count 28 = .ok (.iconst 0, 1) := by decide +kernel
theorem dX13_count_29 : decode cX13_count 29 = .ok (.istore_n 2, 1) := by decide +kernel
theorem dX13_count_30 : decode cX13_count 30 = .ok (.iconst 0, 1) := by decide +kernel
theorem dX13_count_31 : decode cX13_count 31 = .ok (.istore_n 3, 1) := by decide +kernel
theorem dX13_count_32 : decode cX13_count 32 = .ok (.iconst 0, 1) := by decide +kernel
theorem dX13_count_33 : decode cX13_count 33 = .ok (.istore 4, 2) := by decide +kernel
theorem dX13_count_35 : decode cX13_count 35 = .ok (.iload 4, 2) := by decide +kernel
theorem dX13_count_37 : decode cX13_count 37 = .ok (.aload_n 0, 1) := by decide +kernel
theorem dX13_count_38 : decode cX13_count 38 = .ok (.getfield 542, 3) := by decide +kernel
theorem dX13_count_41 : decode cX13_count 41 = .ok (.if_icmp .ge 45, 3) := by decide +kernel
theorem dX13_count_44 : decode cX13_count 44 = .ok (.iload_n 2, 1) := by decide +kernel
theorem dX13_count_45 : decode cX13_count 45 = .ok (.aload_n 0, 1) := by decide +kernel
theorem dX13_count_46 : decode cX13_count 46 = .ok (.getfield 166, 3) := by decide +kernel
theorem dX13_count_49 : decode cX13_count 49 = .ok (.iload 4, 2) := by decide +kernel
theorem dX13_count_51 : decode cX13_count 51 = .ok (.baload, 1) := by decide +kernel
theorem dX13_count_52 : decode cX13_count 52 = .ok (.ifCond .eq 7, 3) := by decide +kernel
theorem dX13_count_55 : decode cX13_count 55 = .ok (.iconst 1, 1) := by decide +kernel
theorem dX13_count_56 : decode cX13_count 56 = .ok (.goto 4, 3) := by decide +kernel
theorem dX13_count_59 : decode cX13_count 59 = .ok (.iconst 0, 1) := by decide +kernel
theorem dX13_count_60 : decode cX13_count 60 = .ok (.iadd, 1) := by decide +kernel
theorem dX13_count_61 : decode cX13_count 61 = .ok (.istore_n 2, 1) := by decide +kernel
theorem dX13_count_62 : decode cX13_count 62 = .ok (.iload_n 3, 1) := by decide +kernel
theorem dX13_count_63 : decode cX13_count 63 = .ok (.aload_n 0, 1) := by decide +kernel
theorem dX13_count_64 : decode cX13_count 64 = .ok (.getfield 181, 3) := by decide +kernel
theorem dX13_count_67 : decode cX13_count 67 = .ok (.iload 4, 2) := by decide +kernel
theorem dX13_count_69 : decode cX13_count 69 = .ok (.baload, 1) := by decide +kernel
theorem dX13_count_70 : decode cX13_count 70 = .ok (.ifCond .eq 7, 3) := by decide +kernel
theorem dX13_count_73 : decode cX13_count 73 = .ok (.iconst 1, 1) := by decide +kernel
theorem dX13_count_74 : decode cX13_count 74 = .ok (.goto 4, 3) := by decide +kernel
theorem dX13_count_77 : decode cX13_count 77 = .ok (.iconst 0, 1) := by decide +kernel
theorem dX13_count_78 : decode cX13_count 78 = .ok (.iadd, 1) := by decide +kernel
theorem dX13_count_79 : decode cX13_count 79 = .ok (.istore_n 3, 1) := by decide +kernel
theorem dX13_count_80 : decode cX13_count 80 = .ok (.iinc 4 1, 3) := by decide +kernel
theorem dX13_count_83 : decode cX13_count 83 = .ok (.goto (-48), 3) := by decide +kernel
theorem dX13_count_86 : decode cX13_count 86 = .ok (.aload_n 0, 1) := by decide +kernel
theorem dX13_count_87 : decode cX13_count 87 = .ok (.getfield 533, 3) := by decide +kernel
theorem dX13_count_90 : decode cX13_count 90 = .ok (.ifCond .ne 7, 3) := by decide +kernel
theorem dX13_count_93 : decode cX13_count 93 = .ok (.iconst 1, 1) := by decide +kernel
theorem dX13_count_94 : decode cX13_count 94 = .ok (.goto 4, 3) := by decide +kernel
theorem dX13_count_97 : decode cX13_count 97 = .ok (.iconst 0, 1) := by decide +kernel
theorem dX13_count_98 : decode cX13_count 98 = .ok (.istore 4, 2) := by decide +kernel
theorem dX13_count_100 : decode cX13_count 100 = .ok (.iload_n 1, 1) := by decide +kernel
theorem dX13_count_101 : decode cX13_count 101 = .ok (.tableswitch 170 0 10 #[59, 75, 91, 107, 123, 128, 133, 138, 152, 166, 168], 59) := by decide +kernel
theorem dX13_count_160 : decode cX13_count 160 = .ok (.aload_n 0, 1) := by decide +kernel
theorem dX13_count_161 : decode cX13_count 161 = .ok (.getfield 529, 3) := by decide +kernel
theorem dX13_count_164 : decode cX13_count 164 = .ok (.ifCond .eq 10, 3) := by decide +kernel
theorem dX13_count_167 : decode cX13_count 167 = .ok (.aload_n 0, 1) := by decide +kernel
theorem dX13_count_168 : decode cX13_count 168 = .ok (.getfield 333, 3) := by decide +kernel
theorem dX13_count_171 : decode cX13_count 171 = .ok (.goto 4, 3) := by decide +kernel
theorem dX13_count_174 : decode cX13_count 174 = .ok (.iconst 0, 1) := by decide +kernel
theorem dX13_count_175 : decode cX13_count 175 = .ok (.ireturn, 1) := by decide +kernel
theorem dX13_count_176 : decode cX13_count 176 = .ok (.aload_n 0, 1) := by decide +kernel
theorem dX13_count_177 : decode cX13_count 177 = .ok (.getfield 529, 3) := by decide +kernel
theorem dX13_count_180 : decode cX13_count 180 = .ok (.ifCond .eq 10, 3) := by decide +kernel
theorem dX13_count_183 : decode cX13_count 183 = .ok (.aload_n 0, 1) := by decide +kernel
theorem dX13_count_184 : decode cX13_count 184 = .ok (.getfield 340, 3) := by decide +kernel
theorem dX13_count_187 : decode cX13_count 187 = .ok (.goto 4, 3) := by decide +kernel
theorem dX13_count_190 : decode cX13_count 190 = .ok (.iconst 0, 1) := by decide +kernel
theorem dX13_count_191 : decode cX13_count 191 = .ok (.ireturn, 1) := by decide +kernel
theorem dX13_count_192 : decode cX13_count 192 = .ok (.aload_n 0, 1) := by decide +kernel
theorem dX13_count_193 : decode cX13_count 193 = .ok (.getfield 529, 3) := by decide +kernel
theorem dX13_count_196 : decode cX13_count 196 = .ok (.ifCond .eq 10, 3) := by decide +kernel
theorem dX13_count_199 : decode cX13_count 199 = .ok (.aload_n 0, 1) := by decide +kernel
theorem dX13_count_200 : decode cX13_count 200 = .ok (.getfield 343, 3) := by decide +kernel
theorem dX13_count_203 : decode cX13_count 203 = .ok (.goto 4, 3) := by decide +kernel
theorem dX13_count_206 : decode cX13_count 206 = .ok (.iconst 0, 1) := by decide +kernel
theorem dX13_count_207 : decode cX13_count 207 = .ok (.ireturn, 1) := by decide +kernel
theorem dX13_count_208 : decode cX13_count 208 = .ok (.aload_n 0, 1) := by decide +kernel
theorem dX13_count_209 : decode cX13_count 209 = .ok (.getfield 529, 3) := by decide +kernel
theorem dX13_count_212 : decode cX13_count 212 = .ok (.ifCond .eq 10, 3) := by decide +kernel
theorem dX13_count_215 : decode cX13_count 215 = .ok (.aload_n 0, 1) := by decide +kernel
theorem dX13_count_216 : decode cX13_count 216 = .ok (.getfield 378, 3) := by decide +kernel
theorem dX13_count_219 : decode cX13_count 219 = .ok (.goto 4, 3) := by decide +kernel
theorem dX13_count_222 : decode cX13_count 222 = .ok (.iconst 0, 1) := by decide +kernel
theorem dX13_count_223 : decode cX13_count 223 = .ok (.ireturn, 1) := by decide +kernel
theorem dX13_count_224 : decode cX13_count 224 = .ok (.aload_n 0, 1) := by decide +kernel
theorem dX13_count_225 : decode cX13_count 225 = .ok (.getfield 542, 3) := by decide +kernel
theorem dX13_count_228 : decode cX13_count 228 = .ok (.ireturn, 1) := by decide +kernel
theorem dX13_count_229 : decode cX13_count 229 = .ok (.aload_n 0, 1) := by decide +kernel
theorem dX13_count_230 : decode cX13_count 230 = .ok (.getfield 545, 3) := by decide +kernel
theorem dX13_count_233 : decode cX13_count 233 = .ok (.ireturn, 1) := by decide +kernel
theorem dX13_count_234 : decode cX13_count 234 = .ok (.aload_n 0, 1) := by decide +kernel
theorem dX13_count_235 : decode cX13_count 235 = .ok (.getfield 548, 3) := by decide +kernel
theorem dX13_count_238 : decode cX13_count 238 = .ok (.ireturn, 1) := by decide +kernel
theorem dX13_count_239 : decode cX13_count 239 = .ok (.iload 4, 2) := by decide +kernel
theorem dX13_count_241 : decode cX13_count 241 = .ok (.ifCond .eq 7, 3) := by decide +kernel
theorem dX13_count_244 : decode cX13_count 244 = .ok (.iconst 0, 1) := by decide +kernel
theorem dX13_count_245 : decode cX13_count 245 = .ok (.goto 7, 3) := by decide +kernel
theorem dX13_count_248 : decode cX13_count 248 = .ok (.aload_n 0, 1) := by decide +kernel
theorem dX13_count_249 : decode cX13_count 249 = .ok (.getfield 658, 3) := by decide +kernel
theorem dX13_count_252 : decode cX13_count 252 = .ok (.ireturn, 1) := by decide +kernel
theorem dX13_count_253 : decode cX13_count 253 = .ok (.iload 4, 2) := by decide +kernel
theorem dX13_count_255 : decode cX13_count 255 = .ok (.ifCond .eq 7, 3) := by decide +kernel
theorem dX13_count_258 : decode cX13_count 258 = .ok (.iconst 0, 1) := by decide +kernel
theorem dX13_count_259 : decode cX13_count 259 = .ok (.goto 7, 3) := by decide +kernel
theorem dX13_count_262 : decode cX13_count 262 = .ok (.aload_n 0, 1) := by decide +kernel
theorem dX13_count_263 : decode cX13_count 263 = .ok (.getfield 661, 3) := by decide +kernel
theorem dX13_count_266 : decode cX13_count 266 = .ok (.ireturn, 1) := by decide +kernel
theorem dX13_count_267 : decode cX13_count 267 = .ok (.iload_n 2, 1) := by decide +kernel
theorem dX13_count_268 : decode cX13_count 268 = .ok (.ireturn, 1) := by decide +kernel
theorem dX13_count_269 : decode cX13_count 269 = .ok (.iload_n 3, 1) := by decide +kernel
theorem dX13_count_270 : decode cX13_count 270 = .ok (.ireturn, 1) := by decide +kernel
theorem dX13_count_271 : decode cX13_count 271 = .ok (.aload_n 0, 1) := by decide +kernel
theorem dX13_count_272 : decode cX13_count 272 = .ok (.getfield 253, 3) := by decide +kernel
theorem dX13_count_275 : decode cX13_count 275 = .ok (.ireturn, 1) := by decide +kernel
theorem dX13_isState_0 : decode cX13_isState 0 = .ok (.aload_n 0, 1) := by decide +kernel
theorem dX13_isState_1 : decode cX13_isState 1 = .ok (.getfield 533, 3) := by decide +kernel
theorem dX13_isState_4 : decode cX13_isState 4 = .ok (.ifCond .eq 19, 3) := by decide +kernel
theorem dX13_isState_7 : decode cX13_isState 7 = .ok (.iload_n 1, 1) := by decide +kernel
theorem dX13_isState_8 : decode cX13_isState 8 = .ok (.ifCond .lt 15, 3) := by decide +kernel
theorem dX13_isState_11 : decode cX13_isState 11 = .ok (.iload_n 1, 1) := by decide +kernel
theorem dX13_isState_12 : decode cX13_isState 12 = .ok (.aload_n 0, 1) := by decide +kernel
theorem dX13_isState_13 : decode cX13_isState 13 = .ok (.getfield 542, 3) := by decide +kernel
theorem dX13_isState_16 : decode cX13_isState 16 = .ok (.if_icmp .ge 7, 3) := by decide +kernel
theorem dX13_isState_19 : decode cX13_isState 19 = .ok (.iconst 1, 1) := by decide +kernel
theorem dX13_isState_20 : decode cX13_isState 20 = .ok (.goto 4, 3) := by decide +kernel
theorem dX13_isState_23 : decode cX13_isState 23 = .ok (.iconst 0, 1) := by decide +kernel
theorem dX13_isState_24 : decode cX13_isState 24 = .ok (.ireturn, 1) := by decide +kernel
set_option maxRecDepth 20000 in
theorem ggX13_state_X13_isState : GoodIn wsX13_state wsX13_isState := goodIn_r _ [11, 12, 13, 21, 22, 23, 24, 25, 26, 27, 28, 29, 30, 31, 32, 33, 34, 35, 36, 37, 38, 39, 40, 41, 42, 43, 44, 45, 46, 47, 48, 49, 50, 51, 52, 53, 54, 55, 56, 57, 58, 59, 60, 61, 62, 63, 64, 65, 66, 67, 68, 69, 70, 71, 72, 73, 74, 75, 76, 77, 78, 79, 80, 81, 82, 83, 84, 85, 86, 87, 88, 89, 90, 91, 92, 93, 94, 95, 96, 97, 98, 99, 100, 101, 102, 103, 104, 105, 106, 107, 108, 109, 110, 111, 112, 113, 114, 115, 116, 117, 118, 119, 120, 121, 122, 123, 124, 125, 126, 127, 128, 129, 130, 131, 132, 133, 134, 135, 136, 137, 138, 139, 140, 141, 142, 143, 144, 145, 146] (by decide +kernel) (by decide +kernel)
set_option maxRecDepth 20000 in
theorem gX13_state_X13_isState : GoodIn wsX13_state (wsV RX13 670 RX13 yX13_isState wsX13_isState) := goodIn_app (goodIn_of _ (by decide +kernel)) ggX13_state_X13_isState
set_option maxRecDepth 20000 in
theorem ggX13_state_X13_within : GoodIn wsX13_state wsX13_within := goodIn_r _ [16] (by decide +kernel) (by decide +kernel)
set_option maxRecDepth 20000 in
theorem gX13_state_X13_within : GoodIn wsX13_state (va_wsS RX13 362 yX13_within wsX13_within) := goodIn_app (goodIn_of _ (by decide +kernel)) ggX13_state_X13_within
set_option maxRecDepth 20000 in
theorem ggX13_state_X13_latestAt : GoodIn wsX13_state wsX13_latestAt := goodIn_ca (goodIn_r _ [20, 2, 21, 22, 23, 24, 25, 26, 27, 28, 29, 30, 31, 32, 33, 34, 35, 36, 37, 38, 39, 40, 41, 42, 43, 44, 45, 46, 47, 48, 49, 50, 51, 52, 53, 54, 55, 56, 57, 58, 59, 60, 61, 62, 63, 64, 65, 66, 67, 68, 69, 70, 71, 72, 73, 74, 75, 76, 77, 78, 79, 80, 81, 82, 83, 84, 85, 86, 87, 88, 89, 90, 91, 92, 93, 94, 95, 96, 97, 98, 99, 100, 101, 102, 103, 104, 105, 106, 107, 108, 109, 110, 111, 112, 113, 114, 115, 116, 117, 118, 119, 120, 121, 122, 123, 124, 125, 126, 127, 128, 129, 130, 131, 132, 133, 134, 135, 136, 137, 138, 139, 140, 141, 142, 143, 144, 145, 146] (by decide +kernel) (by decide +kernel)) (goodIn_sub (fun _ h => List.mem_cons_of_mem _ (List.mem_append_right _ h)) (by decide +kernel))
set_option maxRecDepth 20000 in
theorem gX13_state_X13_latestAt : GoodIn wsX13_state (wsV RX13 673 RX13 yX13_latestAt wsX13_latestAt) := goodIn_app (goodIn_of _ (by decide +kernel)) ggX13_state_X13_latestAt
theorem dX13_state_0 : decode cX13_state 0 = .ok (.aload_n 0, 1) := by decide +kernel
theorem dX13_state_1 : decode cX13_state 1 = .ok (.aload_n 0, 1) := by decide +kernel
theorem dX13_state_2 : decode cX13_state 2 = .ok (.iload_n 1, 1) := by decide +kernel
theorem dX13_state_3 : decode cX13_state 3 = .ok (.invokevirtual 670, 3) := by decide +kernel
theorem dX13_state_6 : decode cX13_state 6 = .ok (.ifCond .eq 12, 3) := by decide +kernel
theorem dX13_state_9 : decode cX13_state 9 = .ok (.iload_n 2, 1) := by decide +kernel
theorem dX13_state_10 : decode cX13_state 10 = .ok (.iconst 0, 1) := by decide +kernel
theorem dX13_state_11 : decode cX13_state 11 = .ok (.iconst 5, 1) := by decide +kernel
theorem dX13_state_12 : decode cX13_state 12 = .ok (.invokestatic 362, 3) := by decide +kernel
theorem dX13_state_15 : decode cX13_state 15 = .ok (.ifCond .ne 7, 3) := by decide +kernel
theorem dX13_state_18 : decode cX13_state 18 = .ok (.iconst 1, 1) := by decide +kernel
theorem dX13_state_19 : decode cX13_state 19 = .ok (.goto 4, 3) := by decide +kernel
theorem dX13_state_22 : decode cX13_state 22 = .ok (.iconst 0, 1) := by decide +kernel
theorem dX13_state_23 : decode cX13_state 23 = .ok (.putfield 1, 3) := by decide +kernel
theorem dX13_state_26 : decode cX13_state 26 = .ok (.aload_n 0, 1) := by decide +kernel
theorem dX13_state_27 : decode cX13_state 27 = .ok (.getfield 1, 3) := by decide +kernel
theorem dX13_state_30 : decode cX13_state 30 = .ok (.ifCond .le 5, 3) := by decide +kernel
theorem dX13_state_33 : decode cX13_state 33 = .ok (.iconst 0, 1) := by decide +kernel
theorem dX13_state_34 : decode cX13_state 34 = .ok (.ireturn, 1) := by decide +kernel
theorem dX13_state_35 : decode cX13_state 35 = .ok (.iload_n 2, 1) := by decide +kernel
theorem dX13_state_36 : decode cX13_state 36 = .ok (.tableswitch 99 0 4 #[36, 42, 53, 69, 84], 36) := by decide +kernel
theorem dX13_state_72 : decode cX13_state 72 = .ok (.aload_n 0, 1) := by decide +kernel
theorem dX13_state_73 : decode cX13_state 73 = .ok (.iload_n 1, 1) := by decide +kernel
theorem dX13_state_74 : decode cX13_state 74 = .ok (.invokevirtual 673, 3) := by decide +kernel
theorem dX13_state_77 : decode cX13_state 77 = .ok (.ireturn, 1) := by decide +kernel
theorem dX13_state_78 : decode cX13_state 78 = .ok (.aload_n 0, 1) := by decide +kernel
theorem dX13_state_79 : decode cX13_state 79 = .ok (.getfield 141, 3) := by decide +kernel
theorem dX13_state_82 : decode cX13_state 82 = .ok (.sipush 143, 3) := by decide +kernel
theorem dX13_state_85 : decode cX13_state 85 = .ok (.iload_n 1, 1) := by decide +kernel
theorem dX13_state_86 : decode cX13_state 86 = .ok (.imul, 1) := by decide +kernel
theorem dX13_state_87 : decode cX13_state 87 = .ok (.iaload, 1) := by decide +kernel
theorem dX13_state_88 : decode cX13_state 88 = .ok (.ireturn, 1) := by decide +kernel
theorem dX13_state_89 : decode cX13_state 89 = .ok (.aload_n 0, 1) := by decide +kernel
theorem dX13_state_90 : decode cX13_state 90 = .ok (.getfield 151, 3) := by decide +kernel
theorem dX13_state_93 : decode cX13_state 93 = .ok (.iload_n 1, 1) := by decide +kernel
theorem dX13_state_94 : decode cX13_state 94 = .ok (.iconst 1, 1) := by decide +kernel
theorem dX13_state_95 : decode cX13_state 95 = .ok (.iadd, 1) := by decide +kernel
theorem dX13_state_96 : decode cX13_state 96 = .ok (.iaload, 1) := by decide +kernel
theorem dX13_state_97 : decode cX13_state 97 = .ok (.aload_n 0, 1) := by decide +kernel
theorem dX13_state_98 : decode cX13_state 98 = .ok (.getfield 151, 3) := by decide +kernel
theorem dX13_state_101 : decode cX13_state 101 = .ok (.iload_n 1, 1) := by decide +kernel
theorem dX13_state_102 : decode cX13_state 102 = .ok (.iaload, 1) := by decide +kernel
theorem dX13_state_103 : decode cX13_state 103 = .ok (.isub, 1) := by decide +kernel
theorem dX13_state_104 : decode cX13_state 104 = .ok (.ireturn, 1) := by decide +kernel
theorem dX13_state_105 : decode cX13_state 105 = .ok (.aload_n 0, 1) := by decide +kernel
theorem dX13_state_106 : decode cX13_state 106 = .ok (.getfield 166, 3) := by decide +kernel
theorem dX13_state_109 : decode cX13_state 109 = .ok (.iload_n 1, 1) := by decide +kernel
theorem dX13_state_110 : decode cX13_state 110 = .ok (.baload, 1) := by decide +kernel
theorem dX13_state_111 : decode cX13_state 111 = .ok (.ifCond .eq 7, 3) := by decide +kernel
theorem dX13_state_114 : decode cX13_state 114 = .ok (.iconst 1, 1) := by decide +kernel
theorem dX13_state_115 : decode cX13_state 115 = .ok (.goto 4, 3) := by decide +kernel
theorem dX13_state_118 : decode cX13_state 118 = .ok (.iconst 0, 1) := by decide +kernel
theorem dX13_state_119 : decode cX13_state 119 = .ok (.ireturn, 1) := by decide +kernel
theorem dX13_state_120 : decode cX13_state 120 = .ok (.aload_n 0, 1) := by decide +kernel
theorem dX13_state_121 : decode cX13_state 121 = .ok (.getfield 181, 3) := by decide +kernel
theorem dX13_state_124 : decode cX13_state 124 = .ok (.iload_n 1, 1) := by decide +kernel
theorem dX13_state_125 : decode cX13_state 125 = .ok (.baload, 1) := by decide +kernel
theorem dX13_state_126 : decode cX13_state 126 = .ok (.ifCond .eq 7, 3) := by decide +kernel
theorem dX13_state_129 : decode cX13_state 129 = .ok (.iconst 1, 1) := by decide +kernel
theorem dX13_state_130 : decode cX13_state 130 = .ok (.goto 4, 3) := by decide +kernel
theorem dX13_state_133 : decode cX13_state 133 = .ok (.iconst 0, 1) := by decide +kernel
theorem dX13_state_134 : decode cX13_state 134 = .ok (.ireturn, 1) := by decide +kernel
theorem dX13_state_135 : decode cX13_state 135 = .ok (.aload_n 0, 1) := by decide +kernel
theorem dX13_state_136 : decode cX13_state 136 = .ok (.getfield 163, 3) := by decide +kernel
theorem dX13_state_139 : decode cX13_state 139 = .ok (.iload_n 1, 1) := by decide +kernel
theorem dX13_state_140 : decode cX13_state 140 = .ok (.iaload, 1) := by decide +kernel
theorem dX13_state_141 : decode cX13_state 141 = .ok (.ireturn, 1) := by decide +kernel
set_option maxRecDepth 20000 in
theorem ggX13_value_X13_isState : GoodIn wsX13_value wsX13_isState := goodIn_r _ [11, 12, 13, 14, 15, 16, 17, 18, 19, 20, 21, 22, 23, 24, 25, 26, 27, 28, 29, 30, 31, 32, 33, 34, 35, 36, 37, 38, 39, 40, 41, 42, 43, 44, 45, 46, 47, 48, 49, 50, 51, 52, 53, 54, 55, 56, 57, 58, 59, 60, 61, 62, 63, 64, 65, 66, 67, 68, 69, 70, 71, 72, 73, 74, 75, 76, 77, 78, 79, 80, 81, 82, 83, 84, 85, 86, 87, 88, 89, 90, 91, 92, 93, 94, 95, 96, 97, 98, 99, 100, 101, 102, 103, 104, 105, 106, 107, 108, 109, 110, 111, 112, 113, 114, 115, 116, 117, 118, 119, 120, 121, 122, 123, 124, 125, 126, 127, 128, 129, 130, 131, 132, 133, 134, 135, 136, 137, 138, 139] (by decide +kernel) (by decide +kernel)
set_option maxRecDepth 20000 in
theorem gX13_value_X13_isState : GoodIn wsX13_value (wsV RX13 670 RX13 yX13_isState wsX13_isState) := goodIn_app (goodIn_of _ (by decide +kernel)) ggX13_value_X13_isState
theorem dX13_value_0 : decode cX13_value 0 = .ok (.aload_n 0, 1) := by decide +kernel
theorem dX13_value_1 : decode cX13_value 1 = .ok (.iload_n 1, 1) := by decide +kernel
theorem dX13_value_2 : decode cX13_value 2 = .ok (.invokevirtual 670, 3) := by decide +kernel
theorem dX13_value_5 : decode cX13_value 5 = .ok (.ifCond .eq 16, 3) := by decide +kernel
theorem dX13_value_8 : decode cX13_value 8 = .ok (.iload_n 3, 1) := by decide +kernel
theorem dX13_value_9 : decode cX13_value 9 = .ok (.ifCond .lt 12, 3) := by decide +kernel
theorem dX13_value_12 : decode cX13_value 12 = .ok (.iload_n 2, 1) := by decide +kernel
theorem dX13_value_13 : decode cX13_value 13 = .ok (.iconst (-1), 1) := by decide +kernel
theorem dX13_value_14 : decode cX13_value 14 = .ok (.if_icmp .lt 7, 3) := by decide +kernel
theorem dX13_value_17 : decode cX13_value 17 = .ok (.iconst 1, 1) := by decide +kernel
theorem dX13_value_18 : decode cX13_value 18 = .ok (.goto 4, 3) := by decide +kernel
theorem dX13_value_21 : decode cX13_value 21 = .ok (.iconst 0, 1) := by decide +kernel
theorem dX13_value_22 : decode cX13_value 22 = .ok (.istore 4, 2) := by decide +kernel
theorem dX13_value_24 : decode cX13_value 24 = .ok (.iload 4, 2) := by decide +kernel
theorem dX13_value_26 : decode cX13_value 26 = .ok (.ifCond .eq 31, 3) := by decide +kernel
theorem dX13_value_29 : decode cX13_value 29 = .ok (.iload_n 2, 1) := by decide +kernel
theorem dX13_value_30 : decode cX13_value 30 = .ok (.iconst (-1), 1) := by decide +kernel
theorem dX13_value_31 : decode cX13_value 31 = .ok (.if_icmp .ne 26, 3) := by decide +kernel
theorem dX13_value_34 : decode cX13_value 34 = .ok (.iload_n 3, 1) := by decide +kernel
theorem dX13_value_35 : decode cX13_value 35 = .ok (.aload_n 0, 1) := by decide +kernel
theorem dX13_value_36 : decode cX13_value 36 = .ok (.getfield 333, 3) := by decide +kernel
theorem dX13_value_39 : decode cX13_value 39 = .ok (.aload_n 0, 1) := by decide +kernel
theorem dX13_value_40 : decode cX13_value 40 = .ok (.getfield 369, 3) := by decide +kernel
theorem dX13_value_43 : decode cX13_value 43 = .ok (.iadd, 1) := by decide +kernel
theorem dX13_value_44 : decode cX13_value 44 = .ok (.if_icmp .ge 7, 3) := by decide +kernel
theorem dX13_value_47 : decode cX13_value 47 = .ok (.iconst 1, 1) := by decide +kernel
theorem dX13_value_48 : decode cX13_value 48 = .ok (.goto 4, 3) := by decide +kernel
theorem dX13_value_51 : decode cX13_value 51 = .ok (.iconst 0, 1) := by decide +kernel
theorem dX13_value_52 : decode cX13_value 52 = .ok (.istore 4, 2) := by decide +kernel
theorem dX13_value_54 : decode cX13_value 54 = .ok (.goto 61, 3) := by decide +kernel
theorem dX13_value_57 : decode cX13_value 57 = .ok (.iload 4, 2) := by decide +kernel
theorem dX13_value_59 : decode cX13_value 59 = .ok (.ifCond .eq 56, 3) := by decide +kernel
theorem dX13_value_62 : decode cX13_value 62 = .ok (.iload_n 2, 1) := by decide +kernel
theorem dX13_value_63 : decode cX13_value 63 = .ok (.aload_n 0, 1) := by decide +kernel
theorem dX13_value_64 : decode cX13_value 64 = .ok (.getfield 141, 3) := by decide +kernel
theorem dX13_value_67 : decode cX13_value 67 = .ok (.sipush 143, 3) := by decide +kernel
theorem dX13_value_70 : decode cX13_value 70 = .ok (.iload_n 1, 1) := by decide +kernel
theorem dX13_value_71 : decode cX13_value 71 = .ok (.imul, 1) := by decide +kernel
theorem dX13_value_72 : decode cX13_value 72 = .ok (.iaload, 1) := by decide +kernel
theorem dX13_value_73 : decode cX13_value 73 = .ok (.if_icmp .ge 39, 3) := by decide +kernel
theorem dX13_value_76 : decode cX13_value 76 = .ok (.iload_n 3, 1) := by decide +kernel
theorem dX13_value_77 : decode cX13_value 77 = .ok (.aload_n 0, 1) := by decide +kernel
theorem dX13_value_78 : decode cX13_value 78 = .ok (.getfield 57, 3) := by decide +kernel
theorem dX13_value_81 : decode cX13_value 81 = .ok (.aload_n 0, 1) := by decide +kernel
theorem dX13_value_82 : decode cX13_value 82 = .ok (.getfield 90, 3) := by decide +kernel
theorem dX13_value_85 : decode cX13_value 85 = .ok (.aload_n 0, 1) := by decide +kernel
theorem dX13_value_86 : decode cX13_value 86 = .ok (.getfield 141, 3) := by decide +kernel
theorem dX13_value_89 : decode cX13_value 89 = .ok (.sipush 143, 3) := by decide +kernel
theorem dX13_value_92 : decode cX13_value 92 = .ok (.iload_n 1, 1) := by decide +kernel
theorem dX13_value_93 : decode cX13_value 93 = .ok (.imul, 1) := by decide +kernel
theorem dX13_value_94 : decode cX13_value 94 = .ok (.bipush 35, 2) := by decide +kernel
theorem dX13_value_96 : decode cX13_value 96 = .ok (.iadd, 1) := by decide +kernel
theorem dX13_value_97 : decode cX13_value 97 = .ok (.bipush 9, 2) := by decide +kernel
theorem dX13_value_99 : decode cX13_value 99 = .ok (.iload_n 2, 1) := by decide +kernel
theorem dX13_value_100 : decode cX13_value 100 = .ok (.imul, 1) := by decide +kernel
theorem dX13_value_101 : decode cX13_value 101 = .ok (.iadd, 1) := by decide +kernel
theorem dX13_value_102 : decode cX13_value 102 = .ok (.iaload, 1) := by decide +kernel
theorem dX13_value_103 : decode cX13_value 103 = .ok (.iaload, 1) := by decide +kernel
theorem dX13_value_104 : decode cX13_value 104 = .ok (.iaload, 1) := by decide +kernel
theorem dX13_value_105 : decode cX13_value 105 = .ok (.if_icmp .ge 7, 3) := by decide +kernel
theorem dX13_value_108 : decode cX13_value 108 = .ok (.iconst 1, 1) := by decide +kernel
theorem dX13_value_109 : decode cX13_value 109 = .ok (.goto 4, 3) := by decide +kernel
theorem dX13_value_112 : decode cX13_value 112 = .ok (.iconst 0, 1) := by decide +kernel
theorem dX13_value_113 : decode cX13_value 113 = .ok (.istore 4, 2) := by decide +kernel
theorem dX13_value_115 : decode cX13_value 115 = .ok (.aload_n 0, 1) := by decide +kernel
theorem dX13_value_116 : decode cX13_value 116 = .ok (.iload 4, 2) := by decide +kernel
theorem dX13_value_118 : decode cX13_value 118 = .ok (.ifCond .eq 7, 3) := by decide +kernel
theorem dX13_value_121 : decode cX13_value 121 = .ok (.iconst 0, 1) := by decide +kernel
theorem dX13_value_122 : decode cX13_value 122 = .ok (.goto 4, 3) := by decide +kernel
theorem dX13_value_125 : decode cX13_value 125 = .ok (.iconst 1, 1) := by decide +kernel
theorem dX13_value_126 : decode cX13_value 126 = .ok (.putfield 1, 3) := by decide +kernel
theorem dX13_value_129 : decode cX13_value 129 = .ok (.aload_n 0, 1) := by decide +kernel
theorem dX13_value_130 : decode cX13_value 130 = .ok (.getfield 1, 3) := by decide +kernel
theorem dX13_value_133 : decode cX13_value 133 = .ok (.ifCond .le 5, 3) := by decide +kernel
theorem dX13_value_136 : decode cX13_value 136 = .ok (.iconst 0, 1) := by decide +kernel
theorem dX13_value_137 : decode cX13_value 137 = .ok (.ireturn, 1) := by decide +kernel
theorem dX13_value_138 : decode cX13_value 138 = .ok (.iload_n 2, 1) := by decide +kernel
theorem dX13_value_139 : decode cX13_value 139 = .ok (.iconst (-1), 1) := by decide +kernel
theorem dX13_value_140 : decode cX13_value 140 = .ok (.if_icmp .ne 20, 3) := by decide +kernel
theorem dX13_value_143 : decode cX13_value 143 = .ok (.aload_n 0, 1) := by decide +kernel
theorem dX13_value_144 : decode cX13_value 144 = .ok (.getfield 141, 3) := by decide +kernel
theorem dX13_value_147 : decode cX13_value 147 = .ok (.sipush 143, 3) := by decide +kernel
theorem dX13_value_150 : decode cX13_value 150 = .ok (.iload_n 1, 1) := by decide +kernel
theorem dX13_value_151 : decode cX13_value 151 = .ok (.imul, 1) := by decide +kernel
theorem dX13_value_152 : decode cX13_value 152 = .ok (.iconst 1, 1) := by decide +kernel
theorem dX13_value_153 : decode cX13_value 153 = .ok (.iadd, 1) := by decide +kernel
theorem dX13_value_154 : decode cX13_value 154 = .ok (.iload_n 3, 1) := by decide +kernel
theorem dX13_value_155 : decode cX13_value 155 = .ok (.iadd, 1) := by decide +kernel
theorem dX13_value_156 : decode cX13_value 156 = .ok (.iaload, 1) := by decide +kernel
theorem dX13_value_157 : decode cX13_value 157 = .ok (.goto 23, 3) := by decide +kernel
theorem dX13_value_160 : decode cX13_value 160 = .ok (.aload_n 0, 1) := by decide +kernel
theorem dX13_value_161 : decode cX13_value 161 = .ok (.getfield 141, 3) := by decide +kernel
theorem dX13_value_164 : decode cX13_value 164 = .ok (.sipush 143, 3) := by decide +kernel
theorem dX13_value_167 : decode cX13_value 167 = .ok (.iload_n 1, 1) := by decide +kernel
theorem dX13_value_168 : decode cX13_value 168 = .ok (.imul, 1) := by decide +kernel
theorem dX13_value_169 : decode cX13_value 169 = .ok (.bipush 36, 2) := by decide +kernel
theorem dX13_value_171 : decode cX13_value 171 = .ok (.iadd, 1) := by decide +kernel
theorem dX13_value_172 : decode cX13_value 172 = .ok (.bipush 9, 2) := by decide +kernel
theorem dX13_value_174 : decode cX13_value 174 = .ok (.iload_n 2, 1) := by decide +kernel
theorem dX13_value_175 : decode cX13_value 175 = .ok (.imul, 1) := by decide +kernel
theorem dX13_value_176 : decode cX13_value 176 = .ok (.iadd, 1) := by decide +kernel
theorem dX13_value_177 : decode cX13_value 177 = .ok (.iload_n 3, 1) := by decide +kernel
theorem dX13_value_178 : decode cX13_value 178 = .ok (.iadd, 1) := by decide +kernel
theorem dX13_value_179 : decode cX13_value 179 = .ok (.iaload, 1) := by decide +kernel
theorem dX13_value_180 : decode cX13_value 180 = .ok (.ireturn, 1) := by decide +kernel
set_option maxRecDepth 20000 in
theorem ggX13_next_X13_isState : GoodIn wsX13_next wsX13_isState := goodIn_r _ [10, 11, 12, 16, 17, 18, 19, 20, 21, 22, 23, 24, 25, 26, 27, 28, 29, 30, 31, 32, 33, 34, 35, 36, 37, 38, 39, 40, 41, 42, 43, 44, 45, 46, 47, 48, 49, 50, 51, 52, 53, 54, 55, 56, 57, 58, 59, 60, 61, 62, 63, 64, 65, 66, 67, 68, 69, 70, 71, 72, 73, 74, 75, 76, 77, 78, 79, 80, 81, 82, 83, 84, 85, 86, 87, 88, 89, 90, 91, 92, 93, 94, 95, 96, 97, 98, 99, 100, 101, 102, 103, 104, 105, 106, 107, 108, 109, 110, 111, 112, 113, 114, 115, 116, 117, 118, 119, 120, 121, 122, 123, 124, 125, 126, 127, 128, 129, 130, 131, 132, 133, 134, 135, 136, 137, 138, 139, 140, 141] (by decide +kernel) (by decide +kernel)
set_option maxRecDepth 20000 in
theorem gX13_next_X13_isState : GoodIn wsX13_next (wsV RX13 670 RX13 yX13_isState wsX13_isState) := goodIn_app (goodIn_of _ (by decide +kernel)) ggX13_next_X13_isState
set_option maxRecDepth 20000 in
theorem ggX13_next_X13_within : GoodIn wsX13_next wsX13_within := goodIn_r _ [15] (by decide +kernel) (by decide +kernel)
set_option maxRecDepth 20000 in
theorem gX13_next_X13_within : GoodIn wsX13_next (va_wsS RX13 362 yX13_within wsX13_within) := goodIn_app (goodIn_of _ (by decide +kernel)) ggX13_next_X13_within
theorem dX13_next_0 : decode cX13_next 0 = .ok (.aload_n 0, 1) := by decide +kernel
theorem dX13_next_1 : decode cX13_next 1 = .ok (.aload_n 0, 1) := by decide +kernel
theorem dX13_next_2 : decode cX13_next 2 = .ok (.iload_n 1, 1) := by decide +kernel
theorem dX13_next_3 : decode cX13_next 3 = .ok (.invokevirtual 670, 3) := by decide +kernel
theorem dX13_next_6 : decode cX13_next 6 = .ok (.ifCond .eq 35, 3) := by decide +kernel
theorem dX13_next_9 : decode cX13_next 9 = .ok (.iload_n 2, 1) := by decide +kernel
theorem dX13_next_10 : decode cX13_next 10 = .ok (.ifCond .lt 31, 3) := by decide +kernel
theorem dX13_next_13 : decode cX13_next 13 = .ok (.iload_n 2, 1) := by decide +kernel
theorem dX13_next_14 : decode cX13_next 14 = .ok (.aload_n 0, 1) := by decide +kernel
theorem dX13_next_15 : decode cX13_next 15 = .ok (.getfield 151, 3) := by decide +kernel
theorem dX13_next_18 : decode cX13_next 18 = .ok (.iload_n 1, 1) := by decide +kernel
theorem dX13_next_19 : decode cX13_next 19 = .ok (.iconst 1, 1) := by decide +kernel
theorem dX13_next_20 : decode cX13_next 20 = .ok (.iadd, 1) := by decide +kernel
theorem dX13_next_21 : decode cX13_next 21 = .ok (.iaload, 1) := by decide +kernel
theorem dX13_next_22 : decode cX13_next 22 = .ok (.aload_n 0, 1) := by decide +kernel
theorem dX13_next_23 : decode cX13_next 23 = .ok (.getfield 151, 3) := by decide +kernel
theorem dX13_next_26 : decode cX13_next 26 = .ok (.iload_n 1, 1) := by decide +kernel
theorem dX13_next_27 : decode cX13_next 27 = .ok (.iaload, 1) := by decide +kernel
theorem dX13_next_28 : decode cX13_next 28 = .ok (.isub, 1) := by decide +kernel
theorem dX13_next_29 : decode cX13_next 29 = .ok (.if_icmp .ge 12, 3) := by decide +kernel
theorem dX13_next_32 : decode cX13_next 32 = .ok (.iload_n 3, 1) := by decide +kernel
theorem dX13_next_33 : decode cX13_next 33 = .ok (.iconst 0, 1) := by decide +kernel
theorem dX13_next_34 : decode cX13_next 34 = .ok (.iconst 2, 1) := by decide +kernel
theorem dX13_next_35 : decode cX13_next 35 = .ok (.invokestatic 362, 3) := by decide +kernel
theorem dX13_next_38 : decode cX13_next 38 = .ok (.ifCond .ne 7, 3) := by decide +kernel
theorem dX13_next_41 : decode cX13_next 41 = .ok (.iconst 1, 1) := by decide +kernel
theorem dX13_next_42 : decode cX13_next 42 = .ok (.goto 4, 3) := by decide +kernel
theorem dX13_next_45 : decode cX13_next 45 = .ok (.iconst 0, 1) := by decide +kernel
theorem dX13_next_46 : decode cX13_next 46 = .ok (.putfield 1, 3) := by decide +kernel
theorem dX13_next_49 : decode cX13_next 49 = .ok (.aload_n 0, 1) := by decide +kernel
theorem dX13_next_50 : decode cX13_next 50 = .ok (.getfield 1, 3) := by decide +kernel
theorem dX13_next_53 : decode cX13_next 53 = .ok (.ifCond .le 5, 3) := by decide +kernel
theorem dX13_next_56 : decode cX13_next 56 = .ok (.iconst 0, 1) := by decide +kernel
theorem dX13_next_57 : decode cX13_next 57 = .ok (.ireturn, 1) := by decide +kernel
theorem dX13_next_58 : decode cX13_next 58 = .ok (.aload_n 0, 1) := by decide +kernel
theorem dX13_next_59 : decode cX13_next 59 = .ok (.getfield 151, 3) := by decide +kernel
theorem dX13_next_62 : decode cX13_next 62 = .ok (.iload_n 1, 1) := by decide +kernel
theorem dX13_next_63 : decode cX13_next 63 = .ok (.iaload, 1) := by decide +kernel
theorem dX13_next_64 : decode cX13_next 64 = .ok (.iload_n 2, 1) := by decide +kernel
theorem dX13_next_65 : decode cX13_next 65 = .ok (.iadd, 1) := by decide +kernel
theorem dX13_next_66 : decode cX13_next 66 = .ok (.istore 4, 2) := by decide +kernel
theorem dX13_next_68 : decode cX13_next 68 = .ok (.iload_n 3, 1) := by decide +kernel
theorem dX13_next_69 : decode cX13_next 69 = .ok (.ifCond .ne 13, 3) := by decide +kernel
theorem dX13_next_72 : decode cX13_next 72 = .ok (.aload_n 0, 1) := by decide +kernel
theorem dX13_next_73 : decode cX13_next 73 = .ok (.getfield 154, 3) := by decide +kernel
theorem dX13_next_76 : decode cX13_next 76 = .ok (.iload 4, 2) := by decide +kernel
theorem dX13_next_78 : decode cX13_next 78 = .ok (.iaload, 1) := by decide +kernel
theorem dX13_next_79 : decode cX13_next 79 = .ok (.goto 25, 3) := by decide +kernel
theorem dX13_next_82 : decode cX13_next 82 = .ok (.iload_n 3, 1) := by decide +kernel
theorem dX13_next_83 : decode cX13_next 83 = .ok (.iconst 1, 1) := by decide +kernel
theorem dX13_next_84 : decode cX13_next 84 = .ok (.if_icmp .ne 13, 3) := by decide +kernel
theorem dX13_next_87 : decode cX13_next 87 = .ok (.aload_n 0, 1) := by decide +kernel
theorem dX13_next_88 : decode cX13_next 88 = .ok (.getfield 157, 3) := by decide +kernel
theorem dX13_next_91 : decode cX13_next 91 = .ok (.iload 4, 2) := by decide +kernel
theorem dX13_next_93 : decode cX13_next 93 = .ok (.iaload, 1) := by decide +kernel
theorem dX13_next_94 : decode cX13_next 94 = .ok (.goto 10, 3) := by decide +kernel
theorem dX13_next_97 : decode cX13_next 97 = .ok (.aload_n 0, 1) := by decide +kernel
theorem dX13_next_98 : decode cX13_next 98 = .ok (.getfield 160, 3) := by decide +kernel
theorem dX13_next_101 : decode cX13_next 101 = .ok (.iload 4, 2) := by decide +kernel
theorem dX13_next_103 : decode cX13_next 103 = .ok (.iaload, 1) := by decide +kernel
theorem dX13_next_104 : decode cX13_next 104 = .ok (.ireturn, 1) := by decide +kernel
theorem dX13_ending_0 : decode cX13_ending 0 = .ok (.aload_n 0, 1) := by decide +kernel
theorem dX13_ending_1 : decode cX13_ending 1 = .ok (.aload_n 0, 1) := by decide +kernel
theorem dX13_ending_2 : decode cX13_ending 2 = .ok (.getfield 533, 3) := by decide +kernel
theorem dX13_ending_5 : decode cX13_ending 5 = .ok (.ifCond .eq 33, 3) := by decide +kernel
theorem dX13_ending_8 : decode cX13_ending 8 = .ok (.iload_n 1, 1) := by decide +kernel
theorem dX13_ending_9 : decode cX13_ending 9 = .ok (.ifCond .lt 29, 3) := by decide +kernel
theorem dX13_ending_12 : decode cX13_ending 12 = .ok (.iload_n 1, 1) := by decide +kernel
theorem dX13_ending_13 : decode cX13_ending 13 = .ok (.aload_n 0, 1) := by decide +kernel
theorem dX13_ending_14 : decode cX13_ending 14 = .ok (.getfield 545, 3) := by decide +kernel
theorem dX13_ending_17 : decode cX13_ending 17 = .ok (.if_icmp .ge 21, 3) := by decide +kernel
theorem dX13_ending_20 : decode cX13_ending 20 = .ok (.iload_n 2, 1) := by decide +kernel
theorem dX13_ending_21 : decode cX13_ending 21 = .ok (.iconst (-1), 1) := by decide +kernel
theorem dX13_ending_22 : decode cX13_ending 22 = .ok (.if_icmp .lt 16, 3) := by decide +kernel
theorem dX13_ending_25 : decode cX13_ending 25 = .ok (.iload_n 2, 1) := by decide +kernel
theorem dX13_ending_26 : decode cX13_ending 26 = .ok (.aload_n 0, 1) := by decide +kernel
theorem dX13_ending_27 : decode cX13_ending 27 = .ok (.getfield 333, 3) := by decide +kernel
theorem dX13_ending_30 : decode cX13_ending 30 = .ok (.aload_n 0, 1) := by decide +kernel
theorem dX13_ending_31 : decode cX13_ending 31 = .ok (.getfield 369, 3) := by decide +kernel
theorem dX13_ending_34 : decode cX13_ending 34 = .ok (.iadd, 1) := by decide +kernel
theorem dX13_ending_35 : decode cX13_ending 35 = .ok (.if_icmp .lt 7, 3) := by decide +kernel
theorem dX13_ending_38 : decode cX13_ending 38 = .ok (.iconst 1, 1) := by decide +kernel
theorem dX13_ending_39 : decode cX13_ending 39 = .ok (.goto 4, 3) := by decide +kernel
theorem dX13_ending_42 : decode cX13_ending 42 = .ok (.iconst 0, 1) := by decide +kernel
theorem dX13_ending_43 : decode cX13_ending 43 = .ok (.putfield 1, 3) := by decide +kernel
theorem dX13_ending_46 : decode cX13_ending 46 = .ok (.aload_n 0, 1) := by decide +kernel
theorem dX13_ending_47 : decode cX13_ending 47 = .ok (.getfield 1, 3) := by decide +kernel
theorem dX13_ending_50 : decode cX13_ending 50 = .ok (.ifCond .le 7, 3) := by decide +kernel
theorem dX13_ending_53 : decode cX13_ending 53 = .ok (.iconst 0, 1) := by decide +kernel
theorem dX13_ending_54 : decode cX13_ending 54 = .ok (.goto 16, 3) := by decide +kernel
theorem dX13_ending_57 : decode cX13_ending 57 = .ok (.aload_n 0, 1) := by decide +kernel
theorem dX13_ending_58 : decode cX13_ending 58 = .ok (.getfield 148, 3) := by decide +kernel
theorem dX13_ending_61 : decode cX13_ending 61 = .ok (.bipush 35, 2) := by decide +kernel
theorem dX13_ending_63 : decode cX13_ending 63 = .ok (.iload_n 1, 1) := by decide +kernel
theorem dX13_ending_64 : decode cX13_ending 64 = .ok (.imul, 1) := by decide +kernel
theorem dX13_ending_65 : decode cX13_ending 65 = .ok (.iconst 1, 1) := by decide +kernel
theorem dX13_ending_66 : decode cX13_ending 66 = .ok (.iadd, 1) := by decide +kernel
theorem dX13_ending_67 : decode cX13_ending 67 = .ok (.iload_n 2, 1) := by decide +kernel
theorem dX13_ending_68 : decode cX13_ending 68 = .ok (.iadd, 1) := by decide +kernel
theorem dX13_ending_69 : decode cX13_ending 69 = .ok (.iaload, 1) := by decide +kernel
theorem dX13_ending_70 : decode cX13_ending 70 = .ok (.ireturn, 1) := by decide +kernel
set_option maxRecDepth 20000 in
theorem ggX13_decide_X13_isState : GoodIn wsX13_decide wsX13_isState := goodIn_r _ [10, 11, 12, 13, 14, 15, 16, 17, 18, 19, 20, 21, 22, 23, 24, 25, 26, 27, 28, 29, 30, 31, 32, 33, 34, 35, 36, 37, 38, 39, 40, 41, 42, 43, 44, 45, 46, 47, 48, 49, 50, 51, 52, 53, 54, 55, 56, 57, 58, 59, 60, 61, 62, 63, 64, 65, 66, 67, 68, 69, 70, 71, 72, 73, 74, 75, 76, 77, 78, 79, 80, 81, 82, 83, 84, 85, 86, 87, 88, 89, 90, 91, 92, 93, 94, 95, 96, 97, 98, 99, 100, 101, 102, 103, 104, 105, 106, 107, 108, 109, 110, 111, 112, 113, 114, 115, 116, 117, 118, 119, 120, 121, 122, 123, 124, 125, 126, 127, 128, 129, 130, 131, 132, 133, 134, 135, 136, 137, 138] (by decide +kernel) (by decide +kernel)
set_option maxRecDepth 20000 in
theorem gX13_decide_X13_isState : GoodIn wsX13_decide (wsV RX13 670 RX13 yX13_isState wsX13_isState) := goodIn_app (goodIn_of _ (by decide +kernel)) ggX13_decide_X13_isState
theorem dX13_decide_0 : decode cX13_decide 0 = .ok (.aload_n 0, 1) := by decide +kernel
theorem dX13_decide_1 : decode cX13_decide 1 = .ok (.aload_n 0, 1) := by decide +kernel
theorem dX13_decide_2 : decode cX13_decide 2 = .ok (.iload_n 1, 1) := by decide +kernel
theorem dX13_decide_3 : decode cX13_decide 3 = .ok (.invokevirtual 670, 3) := by decide +kernel
theorem dX13_decide_6 : decode cX13_decide 6 = .ok (.ifCond .eq 35, 3) := by decide +kernel
theorem dX13_decide_9 : decode cX13_decide 9 = .ok (.aload_n 0, 1) := by decide +kernel
theorem dX13_decide_10 : decode cX13_decide 10 = .ok (.getfield 166, 3) := by decide +kernel
theorem dX13_decide_13 : decode cX13_decide 13 = .ok (.iload_n 1, 1) := by decide +kernel
theorem dX13_decide_14 : decode cX13_decide 14 = .ok (.baload, 1) := by decide +kernel
theorem dX13_decide_15 : decode cX13_decide 15 = .ok (.ifCond .eq 26, 3) := by decide +kernel
theorem dX13_decide_18 : decode cX13_decide 18 = .ok (.iload_n 2, 1) := by decide +kernel
theorem dX13_decide_19 : decode cX13_decide 19 = .ok (.ifCond .lt 22, 3) := by decide +kernel
theorem dX13_decide_22 : decode cX13_decide 22 = .ok (.iload_n 2, 1) := by decide +kernel
theorem dX13_decide_23 : decode cX13_decide 23 = .ok (.aload_n 0, 1) := by decide +kernel
theorem dX13_decide_24 : decode cX13_decide 24 = .ok (.getfield 151, 3) := by decide +kernel
theorem dX13_decide_27 : decode cX13_decide 27 = .ok (.iload_n 1, 1) := by decide +kernel
theorem dX13_decide_28 : decode cX13_decide 28 = .ok (.iconst 1, 1) := by decide +kernel
theorem dX13_decide_29 : decode cX13_decide 29 = .ok (.iadd, 1) := by decide +kernel
theorem dX13_decide_30 : decode cX13_decide 30 = .ok (.iaload, 1) := by decide +kernel
theorem dX13_decide_31 : decode cX13_decide 31 = .ok (.aload_n 0, 1) := by decide +kernel
theorem dX13_decide_32 : decode cX13_decide 32 = .ok (.getfield 151, 3) := by decide +kernel
theorem dX13_decide_35 : decode cX13_decide 35 = .ok (.iload_n 1, 1) := by decide +kernel
theorem dX13_decide_36 : decode cX13_decide 36 = .ok (.iaload, 1) := by decide +kernel
theorem dX13_decide_37 : decode cX13_decide 37 = .ok (.isub, 1) := by decide +kernel
theorem dX13_decide_38 : decode cX13_decide 38 = .ok (.if_icmp .lt 7, 3) := by decide +kernel
theorem dX13_decide_41 : decode cX13_decide 41 = .ok (.iconst 1, 1) := by decide +kernel
theorem dX13_decide_42 : decode cX13_decide 42 = .ok (.goto 4, 3) := by decide +kernel
theorem dX13_decide_45 : decode cX13_decide 45 = .ok (.iconst 0, 1) := by decide +kernel
theorem dX13_decide_46 : decode cX13_decide 46 = .ok (.putfield 1, 3) := by decide +kernel
theorem dX13_decide_49 : decode cX13_decide 49 = .ok (.aload_n 0, 1) := by decide +kernel
theorem dX13_decide_50 : decode cX13_decide 50 = .ok (.getfield 1, 3) := by decide +kernel
theorem dX13_decide_53 : decode cX13_decide 53 = .ok (.ifCond .le 5, 3) := by decide +kernel
theorem dX13_decide_56 : decode cX13_decide 56 = .ok (.iconst 0, 1) := by decide +kernel
theorem dX13_decide_57 : decode cX13_decide 57 = .ok (.ireturn, 1) := by decide +kernel
theorem dX13_decide_58 : decode cX13_decide 58 = .ok (.aload_n 0, 1) := by decide +kernel
theorem dX13_decide_59 : decode cX13_decide 59 = .ok (.getfield 172, 3) := by decide +kernel
theorem dX13_decide_62 : decode cX13_decide 62 = .ok (.iload_n 1, 1) := by decide +kernel
theorem dX13_decide_63 : decode cX13_decide 63 = .ok (.iaload, 1) := by decide +kernel
theorem dX13_decide_64 : decode cX13_decide 64 = .ok (.istore_n 3, 1) := by decide +kernel
theorem dX13_decide_65 : decode cX13_decide 65 = .ok (.aload_n 0, 1) := by decide +kernel
theorem dX13_decide_66 : decode cX13_decide 66 = .ok (.getfield 172, 3) := by decide +kernel
theorem dX13_decide_69 : decode cX13_decide 69 = .ok (.iload_n 1, 1) := by decide +kernel
theorem dX13_decide_70 : decode cX13_decide 70 = .ok (.iload_n 2, 1) := by decide +kernel
theorem dX13_decide_71 : decode cX13_decide 71 = .ok (.iastore, 1) := by decide +kernel
theorem dX13_decide_72 : decode cX13_decide 72 = .ok (.aload_n 0, 1) := by decide +kernel
theorem dX13_decide_73 : decode cX13_decide 73 = .ok (.iconst 0, 1) := by decide +kernel
theorem dX13_decide_74 : decode cX13_decide 74 = .ok (.putfield 536, 3) := by decide +kernel
theorem dX13_decide_77 : decode cX13_decide 77 = .ok (.iload_n 3, 1) := by decide +kernel
theorem dX13_decide_78 : decode cX13_decide 78 = .ok (.ireturn, 1) := by decide +kernel
set_option maxRecDepth 20000 in
theorem ggX13_decided_X13_isState : GoodIn wsX13_decided wsX13_isState := goodIn_r _ [8, 9, 10, 11, 12, 13, 14, 15, 16, 17, 18, 19, 20, 21, 22, 23, 24, 25, 26, 27, 28, 29, 30, 31, 32, 33, 34, 35, 36, 37, 38, 39, 40, 41, 42, 43, 44, 45, 46, 47, 48, 49, 50, 51, 52, 53, 54, 55, 56, 57, 58, 59, 60, 61, 62, 63, 64, 65, 66, 67, 68, 69, 70, 71, 72, 73, 74, 75, 76, 77, 78, 79, 80, 81, 82, 83, 84, 85, 86, 87, 88, 89, 90, 91, 92, 93, 94, 95, 96, 97, 98, 99, 100, 101, 102, 103, 104, 105, 106, 107, 108, 109, 110, 111, 112, 113, 114, 115, 116, 117, 118, 119, 120, 121, 122, 123, 124, 125, 126, 127, 128, 129, 130, 131, 132, 133, 134, 135, 136] (by decide +kernel) (by decide +kernel)
set_option maxRecDepth 20000 in
theorem gX13_decided_X13_isState : GoodIn wsX13_decided (wsV RX13 670 RX13 yX13_isState wsX13_isState) := goodIn_app (goodIn_of _ (by decide +kernel)) ggX13_decided_X13_isState
theorem dX13_decided_0 : decode cX13_decided 0 = .ok (.aload_n 0, 1) := by decide +kernel
theorem dX13_decided_1 : decode cX13_decided 1 = .ok (.aload_n 0, 1) := by decide +kernel
theorem dX13_decided_2 : decode cX13_decided 2 = .ok (.iload_n 1, 1) := by decide +kernel
theorem dX13_decided_3 : decode cX13_decided 3 = .ok (.invokevirtual 670, 3) := by decide +kernel
theorem dX13_decided_6 : decode cX13_decided 6 = .ok (.ifCond .eq 12, 3) := by decide +kernel
theorem dX13_decided_9 : decode cX13_decided 9 = .ok (.aload_n 0, 1) := by decide +kernel
theorem dX13_decided_10 : decode cX13_decided 10 = .ok (.getfield 166, 3) := by decide +kernel
theorem dX13_decided_13 : decode cX13_decided 13 = .ok (.iload_n 1, 1) := by decide +kernel
theorem dX13_decided_14 : decode cX13_decided 14 = .ok (.baload, 1) := by decide +kernel
theorem dX13_decided_15 : decode cX13_decided 15 = .ok (.ifCond .ne 7, 3) := by decide +kernel
theorem dX13_decided_18 : decode cX13_decided 18 = .ok (.iconst 1, 1) := by decide +kernel
theorem dX13_decided_19 : decode cX13_decided 19 = .ok (.goto 4, 3) := by decide +kernel
theorem dX13_decided_22 : decode cX13_decided 22 = .ok (.iconst 0, 1) := by decide +kernel
theorem dX13_decided_23 : decode cX13_decided 23 = .ok (.putfield 1, 3) := by decide +kernel
theorem dX13_decided_26 : decode cX13_decided 26 = .ok (.aload_n 0, 1) := by decide +kernel
theorem dX13_decided_27 : decode cX13_decided 27 = .ok (.getfield 1, 3) := by decide +kernel
theorem dX13_decided_30 : decode cX13_decided 30 = .ok (.ifCond .le 7, 3) := by decide +kernel
theorem dX13_decided_33 : decode cX13_decided 33 = .ok (.iconst 0, 1) := by decide +kernel
theorem dX13_decided_34 : decode cX13_decided 34 = .ok (.goto 9, 3) := by decide +kernel
theorem dX13_decided_37 : decode cX13_decided 37 = .ok (.aload_n 0, 1) := by decide +kernel
theorem dX13_decided_38 : decode cX13_decided 38 = .ok (.getfield 172, 3) := by decide +kernel
theorem dX13_decided_41 : decode cX13_decided 41 = .ok (.iload_n 1, 1) := by decide +kernel
theorem dX13_decided_42 : decode cX13_decided 42 = .ok (.iaload, 1) := by decide +kernel
theorem dX13_decided_43 : decode cX13_decided 43 = .ok (.ireturn, 1) := by decide +kernel
set_option maxRecDepth 20000 in
theorem ggX13_solve_X13_findOrder : GoodIn wsX13_solve wsX13_findOrder := goodIn_ca (goodIn_r _ [14, 5, 4, 15, 6, 7, 16, 17, 18, 19, 13, 20, 21, 22, 23, 24, 25, 26, 27, 28, 29, 30, 31, 32, 33, 34, 35, 36, 37, 38, 39, 40, 41, 42, 43, 44, 45, 46, 47, 48, 49, 50, 51, 52, 53, 54, 55, 56, 189, 190, 191, 192, 193, 194, 195, 196, 197, 198, 199, 200, 201, 202, 203, 204, 205, 206, 207, 208, 209, 210, 211, 212, 213, 214, 215, 216, 217, 218, 219, 220, 221, 222, 223, 224, 225, 226, 227, 228, 229, 230, 231, 232, 233, 234, 235, 236, 237, 238, 239, 240, 241, 242, 243, 244, 245, 246, 247, 248, 249, 250, 251, 252, 253, 254, 255, 256, 257, 258, 259, 260, 261, 262, 263, 264, 265, 266, 267, 268, 269, 270, 271, 272, 273, 274, 275, 276, 277, 278, 279, 280, 281, 282, 283, 284, 285, 286, 287, 288, 289, 290, 291, 292, 293, 294, 295, 296, 297, 298, 299, 300, 301, 302, 303, 304, 305, 306, 307, 308, 309, 310, 311, 312, 313, 314] (by decide +kernel) (by decide +kernel)) (goodIn_sub (fun _ h => List.mem_cons_of_mem _ (List.mem_append_right _ h)) (by decide +kernel))
set_option maxRecDepth 20000 in
theorem gX13_solve_X13_findOrder : GoodIn wsX13_solve (wsV RX13 787 RX13 yX13_findOrder wsX13_findOrder) := goodIn_app (goodIn_of _ (by decide +kernel)) ggX13_solve_X13_findOrder
set_option maxRecDepth 20000 in
theorem ggX13_solve_X13_ringOf : GoodIn wsX13_solve wsX13_ringOf := goodIn_ca (goodIn_r _ [60, 4, 31, 32, 33, 13, 34, 21, 61, 62, 63, 64, 189, 190, 191, 192, 193, 194, 195, 196, 197, 198, 199, 200, 201, 202, 203, 204, 205, 206, 207, 208, 209, 210, 211, 212, 213, 214, 215, 216, 217, 218, 219, 220, 221, 222, 223, 224, 225, 226, 227, 228, 229, 230, 231, 232, 233, 234, 235, 236, 237, 238, 239, 240, 241, 242, 243, 244, 245, 246, 247, 248, 249, 250, 251, 252, 253, 254, 255, 256, 257, 258, 259, 260, 261, 262, 263, 264, 265, 266, 267, 268, 269, 270, 271, 272, 273, 274, 275, 276, 277, 278, 279, 280, 281, 282, 283, 284, 285, 286, 287, 288, 289, 290, 291, 292, 293, 294, 295, 296, 297, 298, 299, 300, 301, 302, 303, 304, 305, 306, 307, 308, 309, 310, 311, 312, 313, 314] (by decide +kernel) (by decide +kernel)) (goodIn_sub (fun _ h => List.mem_cons_of_mem _ (List.mem_append_right _ h)) (by decide +kernel))
set_option maxRecDepth 20000 in
theorem gX13_solve_X13_ringOf : GoodIn wsX13_solve (wsV RX13 667 RX13 yX13_ringOf wsX13_ringOf) := goodIn_app (goodIn_of _ (by decide +kernel)) ggX13_solve_X13_ringOf
set_option maxRecDepth 20000 in
theorem ggX13_solve_X13_isRingWith : GoodIn wsX13_solve wsX13_isRingWith := goodIn_ca (goodIn_r _ [64, 31, 32, 33, 13, 34, 21, 189, 190, 191, 192, 193, 194, 195, 196, 197, 198, 199, 200, 201, 202, 203, 204, 205, 206, 207, 208, 209, 210, 211, 212, 213, 214, 215, 216, 217, 218, 219, 220, 221, 222, 223, 224, 225, 226, 227, 228, 229, 230, 231, 232, 233, 234, 235, 236, 237, 238, 239, 240, 241, 242, 243, 244, 245, 246, 247, 248, 249, 250, 251, 252, 253, 254, 255, 256, 257, 258, 259, 260, 261, 262, 263, 264, 265, 266, 267, 268, 269, 270, 271, 272, 273, 274, 275, 276, 277, 278, 279, 280, 281, 282, 283, 284, 285, 286, 287, 288, 289, 290, 291, 292, 293, 294, 295, 296, 297, 298, 299, 300, 301, 302, 303, 304, 305, 306, 307, 308, 309, 310, 311, 312, 313, 314] (by decide +kernel) (by decide +kernel)) (goodIn_sub (fun _ h => List.mem_cons_of_mem _ (List.mem_append_right _ h)) (by decide +kernel))
set_option maxRecDepth 20000 in
theorem gX13_solve_X13_isRingWith : GoodIn wsX13_solve (wsV RX13 651 RX13 yX13_isRingWith wsX13_isRingWith) := goodIn_app (goodIn_of _ (by decide +kernel)) ggX13_solve_X13_isRingWith
set_option maxRecDepth 20000 in
theorem ggX13_solve_X13_leads : GoodIn wsX13_solve wsX13_leads := goodIn_ca (goodIn_r _ [34, 21, 189, 190, 191, 192, 193, 194, 195, 196, 197, 198, 199, 200, 201, 202, 203, 204, 205, 206, 207, 208, 209, 210, 211, 212, 213, 214, 215, 216, 217, 218, 219, 220, 221, 222, 223, 224, 225, 226, 227, 228, 229, 230, 231, 232, 233, 234, 235, 236, 237, 238, 239, 240, 241, 242, 243, 244, 245, 246, 247, 248, 249, 250, 251, 252, 253, 254, 255, 256, 257, 258, 259, 260, 261, 262, 263, 264, 265, 266, 267, 268, 269, 270, 271, 272, 273, 274, 275, 276, 277, 278, 279, 280, 281, 282, 283, 284, 285, 286, 287, 288, 289, 290, 291, 292, 293, 294, 295, 296, 297, 298, 299, 300, 301, 302, 303, 304, 305, 306, 307, 308, 309, 310, 311, 312, 313, 314] (by decide +kernel) (by decide +kernel)) (goodIn_sub (fun _ h => List.mem_cons_of_mem _ (List.mem_append_right _ h)) (by decide +kernel))
set_option maxRecDepth 20000 in
theorem gX13_solve_X13_leads : GoodIn wsX13_solve (wsV RX13 644 RX13 yX13_leads wsX13_leads) := goodIn_app (goodIn_of _ (by decide +kernel)) ggX13_solve_X13_leads
set_option maxRecDepth 20000 in
theorem ggX13_solve_X13_solveRing : GoodIn wsX13_solve wsX13_solveRing := goodIn_ca (goodIn_r _ [68, 8, 9, 7, 69, 70, 71, 13, 72, 22, 24, 23, 73, 74, 75, 76, 29, 77, 25, 26, 27, 28, 30, 78, 79, 80, 81, 82, 83, 84, 85, 86, 43, 44, 45, 46, 47, 48, 49, 16, 87, 88, 89, 90, 91, 92, 93, 94, 95, 96, 97, 98, 99, 100, 101, 102, 103, 104, 105, 106, 107, 108, 109, 110, 111, 112, 113, 114, 115, 116, 117, 118, 119, 120, 121, 122, 123, 124, 125, 126, 127, 128, 129, 130, 131, 132, 133, 134, 135, 136, 137, 138, 139, 140, 141, 142, 143, 144, 145, 146, 147, 148, 149, 150, 151, 152, 153, 154, 155, 156, 157, 158, 159, 160, 161, 162, 163, 164, 165, 166, 167, 168, 169, 170, 4, 171, 172, 173, 174, 54, 175, 176, 177, 178, 179, 180, 181, 182, 183, 184, 185, 186, 187, 188, 50, 51, 52, 53, 55, 56, 189, 190, 191, 192, 193, 194, 195, 196, 197, 198, 199, 200, 201, 202, 203, 204, 205, 206, 207, 208, 209, 210, 211, 212, 213, 214, 215, 216, 217, 218, 219, 220, 221, 222, 223, 224, 225, 226, 227, 228, 229, 230, 231, 232, 233, 234, 235, 236, 237, 238, 239, 240, 241, 242, 243, 244, 245, 246, 247, 248, 249, 250, 251, 252, 253, 254, 255, 256, 257, 258, 259, 260, 261, 262, 263, 264, 265, 266, 267, 268, 269, 270, 271, 272, 273, 274, 275, 276, 277, 278, 279, 280, 281, 282, 283, 284, 285, 286, 287, 288, 289, 290, 291, 292, 293, 294, 295, 296, 297, 298, 299, 300, 301, 302, 303, 304, 305, 306, 307, 308, 309, 310, 311, 312, 313, 314] (by decide +kernel) (by decide +kernel)) (goodIn_sub (fun _ h => List.mem_cons_of_mem _ (List.mem_append_right _ h)) (by decide +kernel))
set_option maxRecDepth 20000 in
theorem gX13_solve_X13_solveRing : GoodIn wsX13_solve (wsV RX13 790 RX13 yX13_solveRing wsX13_solveRing) := goodIn_app (goodIn_of _ (by decide +kernel)) ggX13_solve_X13_solveRing
set_option maxRecDepth 20000 in
theorem ggX13_solve_X13_clearSum : GoodIn wsX13_solve wsX13_clearSum := goodIn_ca (goodIn_r _ [137, 138, 43, 44, 45, 13, 46, 47, 48, 49, 16, 189, 190, 191, 192, 193, 194, 195, 196, 197, 198, 199, 200, 201, 202, 203, 204, 205, 206, 207, 208, 209, 210, 211, 212, 213, 214, 215, 216, 217, 218, 219, 220, 221, 222, 223, 224, 225, 226, 227, 228, 229, 230, 231, 232, 233, 234, 235, 236, 237, 238, 239, 240, 241, 242, 243, 244, 245, 246, 247, 248, 249, 250, 251, 252, 253, 254, 255, 256, 257, 258, 259, 260, 261, 262, 263, 264, 265, 266, 267, 268, 269, 270, 271, 272, 273, 274, 275, 276, 277, 278, 279, 280, 281, 282, 283, 284, 285, 286, 287, 288, 289, 290, 291, 292, 293, 294, 295, 296, 297, 298, 299, 300, 301, 302, 303, 304, 305, 306, 307, 308, 309, 310, 311, 312, 313, 314] (by decide +kernel) (by decide +kernel)) (goodIn_sub (fun _ h => List.mem_cons_of_mem _ (List.mem_append_right _ h)) (by decide +kernel))
set_option maxRecDepth 20000 in
theorem gX13_solve_X13_clearSum : GoodIn wsX13_solve (wsV RX13 762 RX13 yX13_clearSum wsX13_clearSum) := goodIn_app (goodIn_of _ (by decide +kernel)) ggX13_solve_X13_clearSum
set_option maxRecDepth 20000 in
theorem ggX13_solve_X13_sumInflow : GoodIn wsX13_solve wsX13_sumInflow := goodIn_ca (goodIn_r _ [170, 4, 22, 7, 24, 23, 25, 26, 27, 13, 28, 29, 30, 171, 172, 173, 174, 16, 54, 47, 175, 176, 78, 79, 80, 81, 82, 73, 74, 75, 76, 77, 177, 178, 179, 180, 43, 44, 45, 46, 48, 49, 147, 148, 149, 150, 113, 114, 115, 116, 95, 96, 97, 98, 87, 88, 89, 90, 91, 92, 93, 94, 99, 100, 101, 102, 103, 104, 105, 106, 107, 108, 109, 110, 111, 112, 117, 118, 119, 120, 121, 122, 123, 124, 181, 182, 183, 184, 139, 140, 141, 142, 129, 143, 144, 145, 146, 138, 151, 152, 153, 154, 155, 156, 157, 158, 189, 190, 191, 192, 193, 194, 195, 196, 197, 198, 199, 200, 201, 202, 203, 204, 205, 206, 207, 208, 209, 210, 211, 212, 213, 214, 215, 216, 217, 218, 219, 220, 221, 222, 223, 224, 225, 226, 227, 228, 229, 230, 231, 232, 233, 234, 235, 236, 237, 238, 239, 240, 241, 242, 243, 244, 245, 246, 247, 248, 249, 250, 251, 252, 253, 254, 255, 256, 257, 258, 259, 260, 261, 262, 263, 264, 265, 266, 267, 268, 269, 270, 271, 272, 273, 274, 275, 276, 277, 278, 279, 280, 281, 282, 283, 284, 285, 286, 287, 288, 289, 290, 291, 292, 293, 294, 295, 296, 297, 298, 299, 300, 301, 302, 303, 304, 305, 306, 307, 308, 309, 310, 311, 312, 313, 314] (by decide +kernel) (by decide +kernel)) (goodIn_sub (fun _ h => List.mem_cons_of_mem _ (List.mem_append_right _ h)) (by decide +kernel))
set_option maxRecDepth 20000 in
theorem gX13_solve_X13_sumInflow : GoodIn wsX13_solve (wsV RX13 778 RX13 yX13_sumInflow wsX13_sumInflow) := goodIn_app (goodIn_of _ (by decide +kernel)) ggX13_solve_X13_sumInflow
set_option maxRecDepth 20000 in
theorem ggX13_solve_X13_isLong : GoodIn wsX13_solve wsX13_isLong := goodIn_ca (goodIn_r _ [188, 16, 189, 190, 191, 192, 193, 194, 195, 196, 197, 198, 199, 200, 201, 202, 203, 204, 205, 206, 207, 208, 209, 210, 211, 212, 213, 214, 215, 216, 217, 218, 219, 220, 221, 222, 223, 224, 225, 226, 227, 228, 229, 230, 231, 232, 233, 234, 235, 236, 237, 238, 239, 240, 241, 242, 243, 244, 245, 246, 247, 248, 249, 250, 251, 252, 253, 254, 255, 256, 257, 258, 259, 260, 261, 262, 263, 264, 265, 266, 267, 268, 269, 270, 271, 272, 273, 274, 275, 276, 277, 278, 279, 280, 281, 282, 283, 284, 285, 286, 287, 288, 289, 290, 291, 292, 293, 294, 295, 296, 297, 298, 299, 300, 301, 302, 303, 304, 305, 306, 307, 308, 309, 310, 311, 312, 313, 314] (by decide +kernel) (by decide +kernel)) (goodIn_sub (fun _ h => List.mem_cons_of_mem _ (List.mem_append_right _ h)) (by decide +kernel))
set_option maxRecDepth 20000 in
theorem gX13_solve_X13_isLong : GoodIn wsX13_solve (wsV RX13 781 RX13 yX13_isLong wsX13_isLong) := goodIn_app (goodIn_of _ (by decide +kernel)) ggX13_solve_X13_isLong
set_option maxRecDepth 20000 in
theorem ggX13_solve_X13_keepVisits : GoodIn wsX13_solve wsX13_keepVisits := goodIn_ca (goodIn_r _ [53, 54, 16, 47, 55, 56, 189, 190, 191, 192, 193, 194, 195, 196, 197, 198, 199, 200, 201, 202, 203, 204, 205, 206, 207, 208, 209, 210, 211, 212, 213, 214, 215, 216, 217, 218, 219, 220, 221, 222, 223, 224, 225, 226, 227, 228, 229, 230, 231, 232, 233, 234, 235, 236, 237, 238, 239, 240, 241, 242, 243, 244, 245, 246, 247, 248, 249, 250, 251, 252, 253, 254, 255, 256, 257, 258, 259, 260, 261, 262, 263, 264, 265, 266, 267, 268, 269, 270, 271, 272, 273, 274, 275, 276, 277, 278, 279, 280, 281, 282, 283, 284, 285, 286, 287, 288, 289, 290, 291, 292, 293, 294, 295, 296, 297, 298, 299, 300, 301, 302, 303, 304, 305, 306, 307, 308, 309, 310, 311, 312, 313, 314] (by decide +kernel) (by decide +kernel)) (goodIn_sub (fun _ h => List.mem_cons_of_mem _ (List.mem_append_right _ h)) (by decide +kernel))
set_option maxRecDepth 20000 in
theorem gX13_solve_X13_keepVisits : GoodIn wsX13_solve (wsV RX13 784 RX13 yX13_keepVisits wsX13_keepVisits) := goodIn_app (goodIn_of _ (by decide +kernel)) ggX13_solve_X13_keepVisits
theorem dX13_solve_0 : decode cX13_solve 0 = .ok (.aload_n 0, 1) := by decide +kernel
theorem dX13_solve_1 : decode cX13_solve 1 = .ok (.aload_n 0, 1) := by decide +kernel
theorem dX13_solve_2 : decode cX13_solve 2 = .ok (.getfield 533, 3) := by decide +kernel
theorem dX13_solve_5 : decode cX13_solve 5 = .ok (.ifCond .eq 7, 3) := by decide +kernel
theorem dX13_solve_8 : decode cX13_solve 8 = .ok (.iconst 0, 1) := by decide +kernel
theorem dX13_solve_9 : decode cX13_solve 9 = .ok (.goto 4, 3) := by decide +kernel
theorem dX13_solve_12 : decode cX13_solve 12 = .ok (.iconst 1, 1) := by decide +kernel
theorem dX13_solve_13 : decode cX13_solve 13 = .ok (.putfield 1, 3) := by decide +kernel
theorem dX13_solve_16 : decode cX13_solve 16 = .ok (.aload_n 0, 1) := by decide +kernel
theorem dX13_solve_17 : decode cX13_solve 17 = .ok (.getfield 1, 3) := by decide +kernel
theorem dX13_solve_20 : decode cX13_solve 20 = .ok (.ifCond .le 5, 3) := by decide +kernel
theorem dX13_solve_23 : decode cX13_solve 23 = .ok (.iconst 0, 1) := by decide +kernel
theorem dX13_solve_24 : decode cX13_solve 24 = .ok (.ireturn, 1) := by decide +kernel
theorem dX13_solve_25 : decode cX13_solve 25 = .ok (.aload_n 0, 1) := by decide +kernel
theorem dX13_solve_26 : decode cX13_solve 26 = .ok (.iconst 0, 1) := by decide +kernel
theorem dX13_solve_27 : decode cX13_solve 27 = .ok (.putfield 536, 3) := by decide +kernel
theorem dX13_solve_30 : decode cX13_solve 30 = .ok (.aload_n 0, 1) := by decide +kernel
theorem dX13_solve_31 : decode cX13_solve 31 = .ok (.invokevirtual 787, 3) := by decide +kernel
theorem dX13_solve_34 : decode cX13_solve 34 = .ok (.iconst 0, 1) := by decide +kernel
theorem dX13_solve_35 : decode cX13_solve 35 = .ok (.istore_n 1, 1) := by decide +kernel
theorem dX13_solve_36 : decode cX13_solve 36 = .ok (.iload_n 1, 1) := by decide +kernel
theorem dX13_solve_37 : decode cX13_solve 37 = .ok (.aload_n 0, 1) := by decide +kernel
theorem dX13_solve_38 : decode cX13_solve 38 = .ok (.getfield 542, 3) := by decide +kernel
theorem dX13_solve_41 : decode cX13_solve 41 = .ok (.if_icmp .ge 31, 3) := by decide +kernel
theorem dX13_solve_44 : decode cX13_solve 44 = .ok (.aload_n 0, 1) := by decide +kernel
theorem dX13_solve_45 : decode cX13_solve 45 = .ok (.getfield 195, 3) := by decide +kernel
theorem dX13_solve_48 : decode cX13_solve 48 = .ok (.iload_n 1, 1) := by decide +kernel
theorem dX13_solve_49 : decode cX13_solve 49 = .ok (.baload, 1) := by decide +kernel
theorem dX13_solve_50 : decode cX13_solve 50 = .ok (.ifCond .eq 16, 3) := by decide +kernel
theorem dX13_solve_53 : decode cX13_solve 53 = .ok (.aload_n 0, 1) := by decide +kernel
theorem dX13_solve_54 : decode cX13_solve 54 = .ok (.iload_n 1, 1) := by decide +kernel
theorem dX13_solve_55 : decode cX13_solve 55 = .ok (.invokevirtual 667, 3) := by decide +kernel
theorem dX13_solve_58 : decode cX13_solve 58 = .ok (.bipush 32, 2) := by decide +kernel
theorem dX13_solve_60 : decode cX13_solve 60 = .ok (.if_icmp .le 6, 3) := by decide +kernel
theorem dX13_solve_63 : decode cX13_solve 63 = .ok (.bipush (-2), 2) := by decide +kernel
theorem dX13_solve_65 : decode cX13_solve 65 = .ok (.ireturn, 1) := by decide +kernel
theorem dX13_solve_66 : decode cX13_solve 66 = .ok (.iinc 1 1, 3) := by decide +kernel
theorem dX13_solve_69 : decode cX13_solve 69 = .ok (.goto (-33), 3) := by decide +kernel
theorem dX13_solve_72 : decode cX13_solve 72 = .ok (.iconst 0, 1) := by decide +kernel
theorem dX13_solve_73 : decode cX13_solve 73 = .ok (.istore_n 1, 1) := by decide +kernel
theorem dX13_solve_74 : decode cX13_solve 74 = .ok (.iload_n 1, 1) := by decide +kernel
theorem dX13_solve_75 : decode cX13_solve 75 = .ok (.aload_n 0, 1) := by decide +kernel
theorem dX13_solve_76 : decode cX13_solve 76 = .ok (.getfield 542, 3) := by decide +kernel
theorem dX13_solve_79 : decode cX13_solve 79 = .ok (.if_icmp .ge 157, 3) := by decide +kernel
theorem dX13_solve_82 : decode cX13_solve 82 = .ok (.aload_n 0, 1) := by decide +kernel
theorem dX13_solve_83 : decode cX13_solve 83 = .ok (.getfield 204, 3) := by decide +kernel
theorem dX13_solve_86 : decode cX13_solve 86 = .ok (.iload_n 1, 1) := by decide +kernel
theorem dX13_solve_87 : decode cX13_solve 87 = .ok (.iaload, 1) := by decide +kernel
theorem dX13_solve_88 : decode cX13_solve 88 = .ok (.istore_n 2, 1) := by decide +kernel
theorem dX13_solve_89 : decode cX13_solve 89 = .ok (.aload_n 0, 1) := by decide +kernel
theorem dX13_solve_90 : decode cX13_solve 90 = .ok (.getfield 195, 3) := by decide +kernel
theorem dX13_solve_93 : decode cX13_solve 93 = .ok (.iload_n 2, 1) := by decide +kernel
theorem dX13_solve_94 : decode cX13_solve 94 = .ok (.baload, 1) := by decide +kernel
theorem dX13_solve_95 : decode cX13_solve 95 = .ok (.ifCond .eq 135, 3) := by decide +kernel
theorem dX13_solve_98 : decode cX13_solve 98 = .ok (.aload_n 0, 1) := by decide +kernel
theorem dX13_solve_99 : decode cX13_solve 99 = .ok (.getfield 198, 3) := by decide +kernel
theorem dX13_solve_102 : decode cX13_solve 102 = .ok (.iload_n 2, 1) := by decide +kernel
theorem dX13_solve_103 : decode cX13_solve 103 = .ok (.baload, 1) := by decide +kernel
theorem dX13_solve_104 : decode cX13_solve 104 = .ok (.ifCond .ne 126, 3) := by decide +kernel
theorem dX13_solve_107 : decode cX13_solve 107 = .ok (.aload_n 0, 1) := by decide +kernel
theorem dX13_solve_108 : decode cX13_solve 108 = .ok (.iconst 0, 1) := by decide +kernel
theorem dX13_solve_109 : decode cX13_solve 109 = .ok (.putfield 755, 3) := by decide +kernel
theorem dX13_solve_112 : decode cX13_solve 112 = .ok (.iconst 0, 1) := by decide +kernel
theorem dX13_solve_113 : decode cX13_solve 113 = .ok (.istore_n 3, 1) := by decide +kernel
theorem dX13_solve_114 : decode cX13_solve 114 = .ok (.iload_n 3, 1) := by decide +kernel
theorem dX13_solve_115 : decode cX13_solve 115 = .ok (.aload_n 0, 1) := by decide +kernel
theorem dX13_solve_116 : decode cX13_solve 116 = .ok (.getfield 542, 3) := by decide +kernel
theorem dX13_solve_119 : decode cX13_solve 119 = .ok (.if_icmp .ge 43, 3) := by decide +kernel
theorem dX13_solve_122 : decode cX13_solve 122 = .ok (.iload_n 3, 1) := by decide +kernel
theorem dX13_solve_123 : decode cX13_solve 123 = .ok (.iload_n 2, 1) := by decide +kernel
theorem dX13_solve_124 : decode cX13_solve 124 = .ok (.if_icmp .eq 12, 3) := by decide +kernel
theorem dX13_solve_127 : decode cX13_solve 127 = .ok (.aload_n 0, 1) := by decide +kernel
theorem dX13_solve_128 : decode cX13_solve 128 = .ok (.iload_n 2, 1) := by decide +kernel
theorem dX13_solve_129 : decode cX13_solve 129 = .ok (.iload_n 3, 1) := by decide +kernel
theorem dX13_solve_130 : decode cX13_solve 130 = .ok (.invokevirtual 651, 3) := by decide +kernel
theorem dX13_solve_133 : decode cX13_solve 133 = .ok (.ifCond .eq 23, 3) := by decide +kernel
theorem dX13_solve_136 : decode cX13_solve 136 = .ok (.aload_n 0, 1) := by decide +kernel
theorem dX13_solve_137 : decode cX13_solve 137 = .ok (.getfield 207, 3) := by decide +kernel
theorem dX13_solve_140 : decode cX13_solve 140 = .ok (.aload_n 0, 1) := by decide +kernel
theorem dX13_solve_141 : decode cX13_solve 141 = .ok (.getfield 755, 3) := by decide +kernel
theorem dX13_solve_144 : decode cX13_solve 144 = .ok (.iload_n 3, 1) := by decide +kernel
theorem dX13_solve_145 : decode cX13_solve 145 = .ok (.iastore, 1) := by decide +kernel
theorem dX13_solve_146 : decode cX13_solve 146 = .ok (.aload_n 0, 1) := by decide +kernel
theorem dX13_solve_147 : decode cX13_solve 147 = .ok (.dup, 1) := by decide +kernel
theorem dX13_solve_148 : decode cX13_solve 148 = .ok (.getfield 755, 3) := by decide +kernel
theorem dX13_solve_151 : decode cX13_solve 151 = .ok (.iconst 1, 1) := by decide +kernel
theorem dX13_solve_152 : decode cX13_solve 152 = .ok (.iadd, 1) := by decide +kernel
theorem dX13_solve_153 : decode cX13_solve 153 = .ok (.putfield 755, 3) := by decide +kernel
theorem dX13_solve_156 : decode cX13_solve 156 = .ok (.iinc 3 1, 3) := by decide +kernel
theorem dX13_solve_159 : decode cX13_solve 159 = .ok (.goto (-45), 3) := by decide +kernel
theorem dX13_solve_162 : decode cX13_solve 162 = .ok (.aload_n 0, 1) := by decide +kernel
theorem dX13_solve_163 : decode cX13_solve 163 = .ok (.iload_n 2, 1) := by decide +kernel
theorem dX13_solve_164 : decode cX13_solve 164 = .ok (.iload_n 2, 1) := by decide +kernel
theorem dX13_solve_165 : decode cX13_solve 165 = .ok (.invokevirtual 644, 3) := by decide +kernel
theorem dX13_solve_168 : decode cX13_solve 168 = .ok (.ifCond .eq 11, 3) := by decide +kernel
theorem dX13_solve_171 : decode cX13_solve 171 = .ok (.aload_n 0, 1) := by decide +kernel
theorem dX13_solve_172 : decode cX13_solve 172 = .ok (.invokevirtual 790, 3) := by decide +kernel
theorem dX13_solve_175 : decode cX13_solve 175 = .ok (.istore_n 3, 1) := by decide +kernel
theorem dX13_solve_176 : decode cX13_solve 176 = .ok (.goto 47, 3) := by decide +kernel
theorem dX13_solve_179 : decode cX13_solve 179 = .ok (.aload_n 0, 1) := by decide +kernel
theorem dX13_solve_180 : decode cX13_solve 180 = .ok (.invokevirtual 762, 3) := by decide +kernel
theorem dX13_solve_183 : decode cX13_solve 183 = .ok (.aload_n 0, 1) := by decide +kernel
theorem dX13_solve_184 : decode cX13_solve 184 = .ok (.iload_n 2, 1) := by decide +kernel
theorem dX13_solve_185 : decode cX13_solve 185 = .ok (.iconst (-1), 1) := by decide +kernel
theorem dX13_solve_186 : decode cX13_solve 186 = .ok (.invokevirtual 778, 3) := by decide +kernel
theorem dX13_solve_189 : decode cX13_solve 189 = .ok (.aload_n 0, 1) := by decide +kernel
theorem dX13_solve_190 : decode cX13_solve 190 = .ok (.iconst 4, 1) := by decide +kernel
theorem dX13_solve_191 : decode cX13_solve 191 = .ok (.invokevirtual 781, 3) := by decide +kernel
theorem dX13_solve_194 : decode cX13_solve 194 = .ok (.ifCond .ne 15, 3) := by decide +kernel
theorem dX13_solve_197 : decode cX13_solve 197 = .ok (.aload_n 0, 1) := by decide +kernel
theorem dX13_solve_198 : decode cX13_solve 198 = .ok (.iconst 5, 1) := by decide +kernel
theorem dX13_solve_199 : decode cX13_solve 199 = .ok (.invokevirtual 781, 3) := by decide +kernel
theorem dX13_solve_202 : decode cX13_solve 202 = .ok (.ifCond .ne 7, 3) := by decide +kernel
theorem dX13_solve_205 : decode cX13_solve 205 = .ok (.iconst 1, 1) := by decide +kernel
theorem dX13_solve_206 : decode cX13_solve 206 = .ok (.goto 4, 3) := by decide +kernel
theorem dX13_solve_209 : decode cX13_solve 209 = .ok (.iconst 0, 1) := by decide +kernel
theorem dX13_solve_210 : decode cX13_solve 210 = .ok (.istore_n 3, 1) := by decide +kernel
theorem dX13_solve_211 : decode cX13_solve 211 = .ok (.aload_n 0, 1) := by decide +kernel
theorem dX13_solve_212 : decode cX13_solve 212 = .ok (.iload_n 2, 1) := by decide +kernel
theorem dX13_solve_213 : decode cX13_solve 213 = .ok (.invokevirtual 784, 3) := by decide +kernel
theorem dX13_solve_216 : decode cX13_solve 216 = .ok (.aload_n 0, 1) := by decide +kernel
theorem dX13_solve_217 : decode cX13_solve 217 = .ok (.getfield 198, 3) := by decide +kernel
theorem dX13_solve_220 : decode cX13_solve 220 = .ok (.iload_n 2, 1) := by decide +kernel
theorem dX13_solve_221 : decode cX13_solve 221 = .ok (.iconst 1, 1) := by decide +kernel
theorem dX13_solve_222 : decode cX13_solve 222 = .ok (.bastore, 1) := by decide +kernel
theorem dX13_solve_223 : decode cX13_solve 223 = .ok (.iload_n 3, 1) := by decide +kernel
theorem dX13_solve_224 : decode cX13_solve 224 = .ok (.ifCond .ne 6, 3) := by decide +kernel
theorem dX13_solve_227 : decode cX13_solve 227 = .ok (.bipush (-3), 2) := by decide +kernel
theorem dX13_solve_229 : decode cX13_solve 229 = .ok (.ireturn, 1) := by decide +kernel
theorem dX13_solve_230 : decode cX13_solve 230 = .ok (.iinc 1 1, 3) := by decide +kernel
theorem dX13_solve_233 : decode cX13_solve 233 = .ok (.goto (-159), 3) := by decide +kernel
theorem dX13_solve_236 : decode cX13_solve 236 = .ok (.aload_n 0, 1) := by decide +kernel
theorem dX13_solve_237 : decode cX13_solve 237 = .ok (.iconst 1, 1) := by decide +kernel
theorem dX13_solve_238 : decode cX13_solve 238 = .ok (.putfield 536, 3) := by decide +kernel
theorem dX13_solve_241 : decode cX13_solve 241 = .ok (.iconst 0, 1) := by decide +kernel
theorem dX13_solve_242 : decode cX13_solve 242 = .ok (.ireturn, 1) := by decide +kernel
set_option maxRecDepth 20000 in
theorem ggX13_show_X13_within : GoodIn wsX13_show wsX13_within := goodIn_r _ [14] (by decide +kernel) (by decide +kernel)
set_option maxRecDepth 20000 in
theorem gX13_show_X13_within : GoodIn wsX13_show (va_wsS RX13 362 yX13_within wsX13_within) := goodIn_app (goodIn_of _ (by decide +kernel)) ggX13_show_X13_within
set_option maxRecDepth 20000 in
theorem ggX13_show_X13_sumWeights : GoodIn wsX13_show wsX13_sumWeights := goodIn_ca (goodIn_r _ [18, 6, 19, 20, 21, 22, 23, 24, 25, 13, 26, 9, 27, 28, 29, 30, 31, 32, 33, 34, 35, 36, 37, 38, 39, 40, 41, 42, 43, 44, 45, 46, 47, 48, 49, 50, 51, 52, 53, 54, 55, 56, 57, 58, 59, 60, 61, 62, 63, 64, 65, 66, 67, 68, 69, 70, 71, 72, 73, 74, 75, 76, 77, 78, 79, 80, 81, 82, 83, 84, 85, 86, 87, 88, 89, 90, 91, 92, 93, 94, 95, 96, 97, 98, 99, 100, 101, 102, 103, 104, 105, 106, 107, 108, 109, 110, 111, 112, 113, 114, 115, 116, 117, 118, 119, 120, 121, 122, 123, 124, 125, 126, 127, 128, 145, 146, 147, 148, 149, 150, 151, 152, 153, 154, 155, 156, 157, 158, 159, 160, 161, 162, 163, 164, 165, 166, 167, 168, 169, 170, 171, 172, 173, 174, 175, 176, 177, 178, 179, 180, 181, 182, 183, 184, 185, 186, 187, 188, 189, 190, 191, 192, 193, 194, 195, 196, 197, 198, 199, 200, 201, 202, 203, 204, 205, 206, 207, 208, 209, 210, 211, 212, 213, 214, 215, 216, 217, 218, 219, 220, 221, 222, 223, 224, 225, 226, 227, 228, 229, 230, 231, 232, 233, 234, 235, 236, 237, 238, 239, 240, 241, 242, 243, 244, 245, 246, 247, 248, 249, 250, 251, 252, 253, 254, 255, 256, 257, 258, 259, 260, 261, 262, 263, 264, 265, 266, 267, 268, 269, 270] (by decide +kernel) (by decide +kernel)) (goodIn_sub (fun _ h => List.mem_cons_of_mem _ (List.mem_append_right _ h)) (by decide +kernel))
set_option maxRecDepth 20000 in
theorem gX13_show_X13_sumWeights : GoodIn wsX13_show (wsV RX13 803 RX13 yX13_sumWeights wsX13_sumWeights) := goodIn_app (goodIn_of _ (by decide +kernel)) ggX13_show_X13_sumWeights
set_option maxRecDepth 20000 in
theorem ggX13_show_X13_isZero : GoodIn wsX13_show wsX13_isZero := goodIn_ca (goodIn_r _ [94, 34, 145, 146, 147, 148, 149, 150, 151, 152, 153, 154, 155, 156, 157, 158, 159, 160, 161, 162, 163, 164, 165, 166, 167, 168, 169, 170, 171, 172, 173, 174, 175, 176, 177, 178, 179, 180, 181, 182, 183, 184, 185, 186, 187, 188, 189, 190, 191, 192, 193, 194, 195, 196, 197, 198, 199, 200, 201, 202, 203, 204, 205, 206, 207, 208, 209, 210, 211, 212, 213, 214, 215, 216, 217, 218, 219, 220, 221, 222, 223, 224, 225, 226, 227, 228, 229, 230, 231, 232, 233, 234, 235, 236, 237, 238, 239, 240, 241, 242, 243, 244, 245, 246, 247, 248, 249, 250, 251, 252, 253, 254, 255, 256, 257, 258, 259, 260, 261, 262, 263, 264, 265, 266, 267, 268, 269, 270] (by decide +kernel) (by decide +kernel)) (goodIn_sub (fun _ h => List.mem_cons_of_mem _ (List.mem_append_right _ h)) (by decide +kernel))
set_option maxRecDepth 20000 in
theorem gX13_show_X13_isZero : GoodIn wsX13_show (wsV RX13 696 RX13 yX13_isZero wsX13_isZero) := goodIn_app (goodIn_of _ (by decide +kernel)) ggX13_show_X13_isZero
set_option maxRecDepth 20000 in
theorem ggX13_show_X13_isSlot : GoodIn wsX13_show wsX13_isSlot := goodIn_r _ [131] (by decide +kernel) (by decide +kernel)
set_option maxRecDepth 20000 in
theorem gX13_show_X13_isSlot : GoodIn wsX13_show (va_wsS RX13 807 yX13_isSlot wsX13_isSlot) := goodIn_app (goodIn_of _ (by decide +kernel)) ggX13_show_X13_isSlot
set_option maxRecDepth 20000 in
theorem ggX13_show_X13_sumOver : GoodIn wsX13_show wsX13_sumOver := goodIn_ca (goodIn_r _ [135, 9, 15, 16, 17, 13, 18, 6, 19, 20, 21, 22, 23, 24, 25, 26, 27, 28, 29, 30, 31, 32, 33, 34, 35, 36, 37, 38, 39, 40, 41, 42, 43, 44, 45, 46, 47, 48, 49, 50, 51, 52, 53, 54, 55, 56, 57, 58, 59, 60, 61, 62, 63, 64, 65, 66, 67, 68, 69, 70, 71, 72, 73, 74, 75, 76, 77, 78, 79, 80, 81, 82, 83, 84, 85, 86, 87, 88, 89, 90, 91, 92, 93, 94, 95, 96, 97, 98, 99, 100, 101, 102, 103, 104, 105, 106, 107, 108, 109, 110, 111, 112, 113, 114, 115, 116, 117, 118, 119, 120, 121, 122, 123, 124, 125, 126, 127, 128, 145, 146, 147, 148, 149, 150, 151, 152, 153, 154, 155, 156, 157, 158, 159, 160, 161, 162, 163, 164, 165, 166, 167, 168, 169, 170, 171, 172, 173, 174, 175, 176, 177, 178, 179, 180, 181, 182, 183, 184, 185, 186, 187, 188, 189, 190, 191, 192, 193, 194, 195, 196, 197, 198, 199, 200, 201, 202, 203, 204, 205, 206, 207, 208, 209, 210, 211, 212, 213, 214, 215, 216, 217, 218, 219, 220, 221, 222, 223, 224, 225, 226, 227, 228, 229, 230, 231, 232, 233, 234, 235, 236, 237, 238, 239, 240, 241, 242, 243, 244, 245, 246, 247, 248, 249, 250, 251, 252, 253, 254, 255, 256, 257, 258, 259, 260, 261, 262, 263, 264, 265, 266, 267, 268, 269, 270] (by decide +kernel) (by decide +kernel)) (goodIn_sub (fun _ h => List.mem_cons_of_mem _ (List.mem_append_right _ h)) (by decide +kernel))
set_option maxRecDepth 20000 in
theorem gX13_show_X13_sumOver : GoodIn wsX13_show (wsV RX13 810 RX13 yX13_sumOver wsX13_sumOver) := goodIn_app (goodIn_of _ (by decide +kernel)) ggX13_show_X13_sumOver
set_option maxRecDepth 20000 in
theorem ggX13_show_X13_sumVisits : GoodIn wsX13_show wsX13_sumVisits := goodIn_ca (goodIn_r _ [139, 6, 140, 23, 24, 25, 13, 26, 9, 27, 28, 29, 30, 31, 32, 33, 34, 35, 36, 37, 38, 22, 39, 55, 56, 57, 58, 59, 60, 71, 72, 73, 74, 75, 76, 77, 78, 79, 80, 81, 82, 83, 84, 85, 86, 87, 88, 89, 90, 91, 92, 93, 94, 95, 96, 97, 98, 99, 100, 101, 102, 103, 104, 105, 106, 107, 108, 109, 110, 111, 112, 113, 114, 115, 116, 117, 118, 119, 120, 121, 122, 123, 124, 125, 126, 127, 128, 145, 146, 147, 148, 149, 150, 151, 152, 153, 154, 155, 156, 157, 158, 159, 160, 161, 162, 163, 164, 165, 166, 167, 168, 169, 170, 171, 172, 173, 174, 175, 176, 177, 178, 179, 180, 181, 182, 183, 184, 185, 186, 187, 188, 189, 190, 191, 192, 193, 194, 195, 196, 197, 198, 199, 200, 201, 202, 203, 204, 205, 206, 207, 208, 209, 210, 211, 212, 213, 214, 215, 216, 217, 218, 219, 220, 221, 222, 223, 224, 225, 226, 227, 228, 229, 230, 231, 232, 233, 234, 235, 236, 237, 238, 239, 240, 241, 242, 243, 244, 245, 246, 247, 248, 249, 250, 251, 252, 253, 254, 255, 256, 257, 258, 259, 260, 261, 262, 263, 264, 265, 266, 267, 268, 269, 270] (by decide +kernel) (by decide +kernel)) (goodIn_sub (fun _ h => List.mem_cons_of_mem _ (List.mem_append_right _ h)) (by decide +kernel))
set_option maxRecDepth 20000 in
theorem gX13_show_X13_sumVisits : GoodIn wsX13_show (wsV RX13 814 RX13 yX13_sumVisits wsX13_sumVisits) := goodIn_app (goodIn_of _ (by decide +kernel)) ggX13_show_X13_sumVisits
set_option maxRecDepth 20000 in
theorem ggX13_show_X13_clearSum : GoodIn wsX13_show wsX13_clearSum := goodIn_ca (goodIn_r _ [26, 9, 27, 28, 29, 13, 30, 31, 32, 33, 34, 145, 146, 147, 148, 149, 150, 151, 152, 153, 154, 155, 156, 157, 158, 159, 160, 161, 162, 163, 164, 165, 166, 167, 168, 169, 170, 171, 172, 173, 174, 175, 176, 177, 178, 179, 180, 181, 182, 183, 184, 185, 186, 187, 188, 189, 190, 191, 192, 193, 194, 195, 196, 197, 198, 199, 200, 201, 202, 203, 204, 205, 206, 207, 208, 209, 210, 211, 212, 213, 214, 215, 216, 217, 218, 219, 220, 221, 222, 223, 224, 225, 226, 227, 228, 229, 230, 231, 232, 233, 234, 235, 236, 237, 238, 239, 240, 241, 242, 243, 244, 245, 246, 247, 248, 249, 250, 251, 252, 253, 254, 255, 256, 257, 258, 259, 260, 261, 262, 263, 264, 265, 266, 267, 268, 269, 270] (by decide +kernel) (by decide +kernel)) (goodIn_sub (fun _ h => List.mem_cons_of_mem _ (List.mem_append_right _ h)) (by decide +kernel))
set_option maxRecDepth 20000 in
theorem gX13_show_X13_clearSum : GoodIn wsX13_show (wsV RX13 762 RX13 yX13_clearSum wsX13_clearSum) := goodIn_app (goodIn_of _ (by decide +kernel)) ggX13_show_X13_clearSum
set_option maxRecDepth 20000 in
theorem ggX13_show_X13_loadVisits : GoodIn wsX13_show wsX13_loadVisits := goodIn_ca (goodIn_r _ [58, 34, 39, 31, 59, 60, 145, 146, 147, 148, 149, 150, 151, 152, 153, 154, 155, 156, 157, 158, 159, 160, 161, 162, 163, 164, 165, 166, 167, 168, 169, 170, 171, 172, 173, 174, 175, 176, 177, 178, 179, 180, 181, 182, 183, 184, 185, 186, 187, 188, 189, 190, 191, 192, 193, 194, 195, 196, 197, 198, 199, 200, 201, 202, 203, 204, 205, 206, 207, 208, 209, 210, 211, 212, 213, 214, 215, 216, 217, 218, 219, 220, 221, 222, 223, 224, 225, 226, 227, 228, 229, 230, 231, 232, 233, 234, 235, 236, 237, 238, 239, 240, 241, 242, 243, 244, 245, 246, 247, 248, 249, 250, 251, 252, 253, 254, 255, 256, 257, 258, 259, 260, 261, 262, 263, 264, 265, 266, 267, 268, 269, 270] (by decide +kernel) (by decide +kernel)) (goodIn_sub (fun _ h => List.mem_cons_of_mem _ (List.mem_append_right _ h)) (by decide +kernel))
set_option maxRecDepth 20000 in
theorem gX13_show_X13_loadVisits : GoodIn wsX13_show (wsV RX13 737 RX13 yX13_loadVisits wsX13_loadVisits) := goodIn_app (goodIn_of _ (by decide +kernel)) ggX13_show_X13_loadVisits
set_option maxRecDepth 20000 in
theorem ggX13_show_X13_add : GoodIn wsX13_show wsX13_add := goodIn_ca (goodIn_r _ [120, 9, 75, 76, 77, 13, 78, 34, 31, 32, 33, 79, 80, 81, 82, 91, 92, 93, 94, 121, 122, 123, 124, 108, 100, 101, 102, 103, 125, 126, 127, 128, 83, 84, 85, 86, 87, 88, 89, 90, 27, 28, 29, 30, 95, 96, 97, 98, 99, 104, 105, 106, 107, 109, 110, 111, 112, 113, 114, 115, 116, 145, 146, 147, 148, 149, 150, 151, 152, 153, 154, 155, 156, 157, 158, 159, 160, 161, 162, 163, 164, 165, 166, 167, 168, 169, 170, 171, 172, 173, 174, 175, 176, 177, 178, 179, 180, 181, 182, 183, 184, 185, 186, 187, 188, 189, 190, 191, 192, 193, 194, 195, 196, 197, 198, 199, 200, 201, 202, 203, 204, 205, 206, 207, 208, 209, 210, 211, 212, 213, 214, 215, 216, 217, 218, 219, 220, 221, 222, 223, 224, 225, 226, 227, 228, 229, 230, 231, 232, 233, 234, 235, 236, 237, 238, 239, 240, 241, 242, 243, 244, 245, 246, 247, 248, 249, 250, 251, 252, 253, 254, 255, 256, 257, 258, 259, 260, 261, 262, 263, 264, 265, 266, 267, 268, 269, 270] (by decide +kernel) (by decide +kernel)) (goodIn_sub (fun _ h => List.mem_cons_of_mem _ (List.mem_append_right _ h)) (by decide +kernel))
set_option maxRecDepth 20000 in
theorem gX13_show_X13_add : GoodIn wsX13_show (wsV RX13 727 RX13 yX13_add wsX13_add) := goodIn_app (goodIn_of _ (by decide +kernel)) ggX13_show_X13_add
set_option maxRecDepth 20000 in
theorem ggX13_show_X13_loadWorth : GoodIn wsX13_show wsX13_loadWorth := goodIn_ca (goodIn_r _ [144, 34, 31, 59, 60, 145, 146, 147, 148, 149, 150, 151, 152, 153, 154, 155, 156, 157, 158, 159, 160, 161, 162, 163, 164, 165, 166, 167, 168, 169, 170, 171, 172, 173, 174, 175, 176, 177, 178, 179, 180, 181, 182, 183, 184, 185, 186, 187, 188, 189, 190, 191, 192, 193, 194, 195, 196, 197, 198, 199, 200, 201, 202, 203, 204, 205, 206, 207, 208, 209, 210, 211, 212, 213, 214, 215, 216, 217, 218, 219, 220, 221, 222, 223, 224, 225, 226, 227, 228, 229, 230, 231, 232, 233, 234, 235, 236, 237, 238, 239, 240, 241, 242, 243, 244, 245, 246, 247, 248, 249, 250, 251, 252, 253, 254, 255, 256, 257, 258, 259, 260, 261, 262, 263, 264, 265, 266, 267, 268, 269, 270] (by decide +kernel) (by decide +kernel)) (goodIn_sub (fun _ h => List.mem_cons_of_mem _ (List.mem_append_right _ h)) (by decide +kernel))
set_option maxRecDepth 20000 in
theorem gX13_show_X13_loadWorth : GoodIn wsX13_show (wsV RX13 817 RX13 yX13_loadWorth wsX13_loadWorth) := goodIn_app (goodIn_of _ (by decide +kernel)) ggX13_show_X13_loadWorth
set_option maxRecDepth 20000 in
theorem ggX13_show_X13_copy : GoodIn wsX13_show wsX13_copy := goodIn_ca (goodIn_r _ [86, 34, 31, 32, 145, 146, 147, 148, 149, 150, 151, 152, 153, 154, 155, 156, 157, 158, 159, 160, 161, 162, 163, 164, 165, 166, 167, 168, 169, 170, 171, 172, 173, 174, 175, 176, 177, 178, 179, 180, 181, 182, 183, 184, 185, 186, 187, 188, 189, 190, 191, 192, 193, 194, 195, 196, 197, 198, 199, 200, 201, 202, 203, 204, 205, 206, 207, 208, 209, 210, 211, 212, 213, 214, 215, 216, 217, 218, 219, 220, 221, 222, 223, 224, 225, 226, 227, 228, 229, 230, 231, 232, 233, 234, 235, 236, 237, 238, 239, 240, 241, 242, 243, 244, 245, 246, 247, 248, 249, 250, 251, 252, 253, 254, 255, 256, 257, 258, 259, 260, 261, 262, 263, 264, 265, 266, 267, 268, 269, 270] (by decide +kernel) (by decide +kernel)) (goodIn_sub (fun _ h => List.mem_cons_of_mem _ (List.mem_append_right _ h)) (by decide +kernel))
set_option maxRecDepth 20000 in
theorem gX13_show_X13_copy : GoodIn wsX13_show (wsV RX13 703 RX13 yX13_copy wsX13_copy) := goodIn_app (goodIn_of _ (by decide +kernel)) ggX13_show_X13_copy
set_option maxRecDepth 20000 in
theorem ggX13_show_X13_reduce : GoodIn wsX13_show wsX13_reduce := goodIn_ca (goodIn_r _ [90, 34, 31, 32, 91, 92, 93, 13, 94, 27, 28, 29, 30, 33, 83, 84, 85, 86, 95, 96, 97, 98, 99, 100, 101, 102, 103, 104, 105, 106, 107, 108, 79, 80, 81, 82, 109, 110, 111, 112, 113, 114, 115, 116, 145, 146, 147, 148, 149, 150, 151, 152, 153, 154, 155, 156, 157, 158, 159, 160, 161, 162, 163, 164, 165, 166, 167, 168, 169, 170, 171, 172, 173, 174, 175, 176, 177, 178, 179, 180, 181, 182, 183, 184, 185, 186, 187, 188, 189, 190, 191, 192, 193, 194, 195, 196, 197, 198, 199, 200, 201, 202, 203, 204, 205, 206, 207, 208, 209, 210, 211, 212, 213, 214, 215, 216, 217, 218, 219, 220, 221, 222, 223, 224, 225, 226, 227, 228, 229, 230, 231, 232, 233, 234, 235, 236, 237, 238, 239, 240, 241, 242, 243, 244, 245, 246, 247, 248, 249, 250, 251, 252, 253, 254, 255, 256, 257, 258, 259, 260, 261, 262, 263, 264, 265, 266, 267, 268, 269, 270] (by decide +kernel) (by decide +kernel)) (goodIn_sub (fun _ h => List.mem_cons_of_mem _ (List.mem_append_right _ h)) (by decide +kernel))
set_option maxRecDepth 20000 in
theorem gX13_show_X13_reduce : GoodIn wsX13_show (wsV RX13 721 RX13 yX13_reduce wsX13_reduce) := goodIn_app (goodIn_of _ (by decide +kernel)) ggX13_show_X13_reduce
theorem dX13_show_0 : decode cX13_show 0 = .ok (.aload_n 0, 1) := by decide +kernel
theorem dX13_show_1 : decode cX13_show 1 = .ok (.iload_n 1, 1) := by decide +kernel
theorem dX13_show_2 : decode cX13_show 2 = .ok (.iconst 0, 1) := by decide +kernel
theorem dX13_show_3 : decode cX13_show 3 = .ok (.bipush 12, 2) := by decide +kernel
theorem dX13_show_5 : decode cX13_show 5 = .ok (.invokestatic 362, 3) := by decide +kernel
theorem dX13_show_8 : decode cX13_show 8 = .ok (.ifCond .ne 7, 3) := by decide +kernel
theorem dX13_show_11 : decode cX13_show 11 = .ok (.iconst 1, 1) := by decide +kernel
theorem dX13_show_12 : decode cX13_show 12 = .ok (.goto 58, 3) := by decide +kernel
theorem dX13_show_15 : decode cX13_show 15 = .ok (.iload_n 1, 1) := by decide +kernel
theorem dX13_show_16 : decode cX13_show 16 = .ok (.bipush 11, 2) := by decide +kernel
theorem dX13_show_18 : decode cX13_show 18 = .ok (.if_icmp .ge 18, 3) := by decide +kernel
theorem dX13_show_21 : decode cX13_show 21 = .ok (.aload_n 0, 1) := by decide +kernel
theorem dX13_show_22 : decode cX13_show 22 = .ok (.getfield 536, 3) := by decide +kernel
theorem dX13_show_25 : decode cX13_show 25 = .ok (.ifCond .eq 7, 3) := by decide +kernel
theorem dX13_show_28 : decode cX13_show 28 = .ok (.iconst 0, 1) := by decide +kernel
theorem dX13_show_29 : decode cX13_show 29 = .ok (.goto 41, 3) := by decide +kernel
theorem dX13_show_32 : decode cX13_show 32 = .ok (.iconst 2, 1) := by decide +kernel
theorem dX13_show_33 : decode cX13_show 33 = .ok (.goto 37, 3) := by decide +kernel
theorem dX13_show_36 : decode cX13_show 36 = .ok (.iload_n 1, 1) := by decide +kernel
theorem dX13_show_37 : decode cX13_show 37 = .ok (.bipush 11, 2) := by decide +kernel
theorem dX13_show_39 : decode cX13_show 39 = .ok (.if_icmp .ne 18, 3) := by decide +kernel
theorem dX13_show_42 : decode cX13_show 42 = .ok (.aload_n 0, 1) := by decide +kernel
theorem dX13_show_43 : decode cX13_show 43 = .ok (.getfield 539, 3) := by decide +kernel
theorem dX13_show_46 : decode cX13_show 46 = .ok (.ifCond .eq 7, 3) := by decide +kernel
theorem dX13_show_49 : decode cX13_show 49 = .ok (.iconst 0, 1) := by decide +kernel
theorem dX13_show_50 : decode cX13_show 50 = .ok (.goto 20, 3) := by decide +kernel
theorem dX13_show_53 : decode cX13_show 53 = .ok (.iconst 2, 1) := by decide +kernel
theorem dX13_show_54 : decode cX13_show 54 = .ok (.goto 16, 3) := by decide +kernel
theorem dX13_show_57 : decode cX13_show 57 = .ok (.aload_n 0, 1) := by decide +kernel
theorem dX13_show_58 : decode cX13_show 58 = .ok (.getfield 220, 3) := by decide +kernel
theorem dX13_show_61 : decode cX13_show 61 = .ok (.iconst (-1), 1) := by decide +kernel
theorem dX13_show_62 : decode cX13_show 62 = .ok (.if_icmp .ne 7, 3) := by decide +kernel
theorem dX13_show_65 : decode cX13_show 65 = .ok (.iconst 2, 1) := by decide +kernel
theorem dX13_show_66 : decode cX13_show 66 = .ok (.goto 4, 3) := by decide +kernel
theorem dX13_show_69 : decode cX13_show 69 = .ok (.iconst 0, 1) := by decide +kernel
theorem dX13_show_70 : decode cX13_show 70 = .ok (.putfield 1, 3) := by decide +kernel
theorem dX13_show_73 : decode cX13_show 73 = .ok (.aload_n 0, 1) := by decide +kernel
theorem dX13_show_74 : decode cX13_show 74 = .ok (.getfield 1, 3) := by decide +kernel
theorem dX13_show_77 : decode cX13_show 77 = .ok (.ifCond .ne 49, 3) := by decide +kernel
theorem dX13_show_80 : decode cX13_show 80 = .ok (.iload_n 1, 1) := by decide +kernel
theorem dX13_show_81 : decode cX13_show 81 = .ok (.iconst 2, 1) := by decide +kernel
theorem dX13_show_82 : decode cX13_show 82 = .ok (.if_icmp .lt 9, 3) := by decide +kernel
theorem dX13_show_85 : decode cX13_show 85 = .ok (.iload_n 1, 1) := by decide +kernel
theorem dX13_show_86 : decode cX13_show 86 = .ok (.bipush 10, 2) := by decide +kernel
theorem dX13_show_88 : decode cX13_show 88 = .ok (.if_icmp .ne 38, 3) := by decide +kernel
theorem dX13_show_91 : decode cX13_show 91 = .ok (.aload_n 0, 1) := by decide +kernel
theorem dX13_show_92 : decode cX13_show 92 = .ok (.iload_n 1, 1) := by decide +kernel
theorem dX13_show_93 : decode cX13_show 93 = .ok (.iconst 2, 1) := by decide +kernel
theorem dX13_show_94 : decode cX13_show 94 = .ok (.if_icmp .ge 8, 3) := by decide +kernel
theorem dX13_show_97 : decode cX13_show 97 = .ok (.bipush 6, 2) := by decide +kernel
theorem dX13_show_99 : decode cX13_show 99 = .ok (.goto 5, 3) := by decide +kernel
theorem dX13_show_102 : decode cX13_show 102 = .ok (.bipush 7, 2) := by decide +kernel
theorem dX13_show_104 : decode cX13_show 104 = .ok (.iconst 0, 1) := by decide +kernel
theorem dX13_show_105 : decode cX13_show 105 = .ok (.iconst 0, 1) := by decide +kernel
theorem dX13_show_106 : decode cX13_show 106 = .ok (.invokevirtual 803, 3) := by decide +kernel
theorem dX13_show_109 : decode cX13_show 109 = .ok (.aload_n 0, 1) := by decide +kernel
theorem dX13_show_110 : decode cX13_show 110 = .ok (.aload_n 0, 1) := by decide +kernel
theorem dX13_show_111 : decode cX13_show 111 = .ok (.iconst 4, 1) := by decide +kernel
theorem dX13_show_112 : decode cX13_show 112 = .ok (.invokevirtual 696, 3) := by decide +kernel
theorem dX13_show_115 : decode cX13_show 115 = .ok (.ifCond .eq 7, 3) := by decide +kernel
theorem dX13_show_118 : decode cX13_show 118 = .ok (.iconst 2, 1) := by decide +kernel
theorem dX13_show_119 : decode cX13_show 119 = .ok (.goto 4, 3) := by decide +kernel
theorem dX13_show_122 : decode cX13_show 122 = .ok (.iconst 0, 1) := by decide +kernel
theorem dX13_show_123 : decode cX13_show 123 = .ok (.putfield 1, 3) := by decide +kernel
theorem dX13_show_126 : decode cX13_show 126 = .ok (.aload_n 0, 1) := by decide +kernel
theorem dX13_show_127 : decode cX13_show 127 = .ok (.getfield 1, 3) := by decide +kernel
theorem dX13_show_130 : decode cX13_show 130 = .ok (.ifCond .ne 51, 3) := by decide +kernel
theorem dX13_show_133 : decode cX13_show 133 = .ok (.aload_n 0, 1) := by decide +kernel
theorem dX13_show_134 : decode cX13_show 134 = .ok (.iload_n 1, 1) := by decide +kernel
theorem dX13_show_135 : decode cX13_show 135 = .ok (.iconst 2, 1) := by decide +kernel
theorem dX13_show_136 : decode cX13_show 136 = .ok (.if_icmp .ne 14, 3) := by decide +kernel
theorem dX13_show_139 : decode cX13_show 139 = .ok (.iload_n 2, 1) := by decide +kernel
theorem dX13_show_140 : decode cX13_show 140 = .ok (.aload_n 0, 1) := by decide +kernel
theorem dX13_show_141 : decode cX13_show 141 = .ok (.getfield 545, 3) := by decide +kernel
theorem dX13_show_144 : decode cX13_show 144 = .ok (.invokestatic 807, 3) := by decide +kernel
theorem dX13_show_147 : decode cX13_show 147 = .ok (.ifCond .eq 26, 3) := by decide +kernel
theorem dX13_show_150 : decode cX13_show 150 = .ok (.iload_n 1, 1) := by decide +kernel
theorem dX13_show_151 : decode cX13_show 151 = .ok (.bipush 8, 2) := by decide +kernel
theorem dX13_show_153 : decode cX13_show 153 = .ok (.if_icmp .eq 9, 3) := by decide +kernel
theorem dX13_show_156 : decode cX13_show 156 = .ok (.iload_n 1, 1) := by decide +kernel
theorem dX13_show_157 : decode cX13_show 157 = .ok (.bipush 11, 2) := by decide +kernel
theorem dX13_show_159 : decode cX13_show 159 = .ok (.if_icmp .ne 18, 3) := by decide +kernel
theorem dX13_show_162 : decode cX13_show 162 = .ok (.iload_n 2, 1) := by decide +kernel
theorem dX13_show_163 : decode cX13_show 163 = .ok (.aload_n 0, 1) := by decide +kernel
theorem dX13_show_164 : decode cX13_show 164 = .ok (.getfield 542, 3) := by decide +kernel
theorem dX13_show_167 : decode cX13_show 167 = .ok (.invokestatic 807, 3) := by decide +kernel
theorem dX13_show_170 : decode cX13_show 170 = .ok (.ifCond .ne 7, 3) := by decide +kernel
theorem dX13_show_173 : decode cX13_show 173 = .ok (.iconst 3, 1) := by decide +kernel
theorem dX13_show_174 : decode cX13_show 174 = .ok (.goto 4, 3) := by decide +kernel
theorem dX13_show_177 : decode cX13_show 177 = .ok (.iconst 0, 1) := by decide +kernel
theorem dX13_show_178 : decode cX13_show 178 = .ok (.putfield 1, 3) := by decide +kernel
theorem dX13_show_181 : decode cX13_show 181 = .ok (.aload_n 0, 1) := by decide +kernel
theorem dX13_show_182 : decode cX13_show 182 = .ok (.getfield 1, 3) := by decide +kernel
theorem dX13_show_185 : decode cX13_show 185 = .ok (.ifCond .le 5, 3) := by decide +kernel
theorem dX13_show_188 : decode cX13_show 188 = .ok (.iconst 0, 1) := by decide +kernel
theorem dX13_show_189 : decode cX13_show 189 = .ok (.ireturn, 1) := by decide +kernel
theorem dX13_show_190 : decode cX13_show 190 = .ok (.iload_n 1, 1) := by decide +kernel
theorem dX13_show_191 : decode cX13_show 191 = .ok (.iconst 2, 1) := by decide +kernel
theorem dX13_show_192 : decode cX13_show 192 = .ok (.if_icmp .ge 15, 3) := by decide +kernel
theorem dX13_show_195 : decode cX13_show 195 = .ok (.aload_n 0, 1) := by decide +kernel
theorem dX13_show_196 : decode cX13_show 196 = .ok (.iload_n 1, 1) := by decide +kernel
theorem dX13_show_197 : decode cX13_show 197 = .ok (.iload_n 2, 1) := by decide +kernel
theorem dX13_show_198 : decode cX13_show 198 = .ok (.iconst 0, 1) := by decide +kernel
theorem dX13_show_199 : decode cX13_show 199 = .ok (.bipush 6, 2) := by decide +kernel
theorem dX13_show_201 : decode cX13_show 201 = .ok (.invokevirtual 810, 3) := by decide +kernel
theorem dX13_show_204 : decode cX13_show 204 = .ok (.goto 148, 3) := by decide +kernel
theorem dX13_show_207 : decode cX13_show 207 = .ok (.iload_n 1, 1) := by decide +kernel
theorem dX13_show_208 : decode cX13_show 208 = .ok (.bipush 7, 2) := by decide +kernel
theorem dX13_show_210 : decode cX13_show 210 = .ok (.if_icmp .ge 13, 3) := by decide +kernel
theorem dX13_show_213 : decode cX13_show 213 = .ok (.aload_n 0, 1) := by decide +kernel
theorem dX13_show_214 : decode cX13_show 214 = .ok (.iload_n 1, 1) := by decide +kernel
theorem dX13_show_215 : decode cX13_show 215 = .ok (.iload_n 2, 1) := by decide +kernel
theorem dX13_show_216 : decode cX13_show 216 = .ok (.iconst 0, 1) := by decide +kernel
theorem dX13_show_217 : decode cX13_show 217 = .ok (.invokevirtual 803, 3) := by decide +kernel
theorem dX13_show_220 : decode cX13_show 220 = .ok (.goto 132, 3) := by decide +kernel
theorem dX13_show_223 : decode cX13_show 223 = .ok (.iload_n 1, 1) := by decide +kernel
theorem dX13_show_224 : decode cX13_show 224 = .ok (.bipush 7, 2) := by decide +kernel
theorem dX13_show_226 : decode cX13_show 226 = .ok (.if_icmp .eq 9, 3) := by decide +kernel
theorem dX13_show_229 : decode cX13_show 229 = .ok (.iload_n 1, 1) := by decide +kernel
theorem dX13_show_230 : decode cX13_show 230 = .ok (.bipush 9, 2) := by decide +kernel
theorem dX13_show_232 : decode cX13_show 232 = .ok (.if_icmp .ne 21, 3) := by decide +kernel
theorem dX13_show_235 : decode cX13_show 235 = .ok (.aload_n 0, 1) := by decide +kernel
theorem dX13_show_236 : decode cX13_show 236 = .ok (.iload_n 1, 1) := by decide +kernel
theorem dX13_show_237 : decode cX13_show 237 = .ok (.bipush 7, 2) := by decide +kernel
theorem dX13_show_239 : decode cX13_show 239 = .ok (.if_icmp .ne 7, 3) := by decide +kernel
theorem dX13_show_242 : decode cX13_show 242 = .ok (.iconst 1, 1) := by decide +kernel
theorem dX13_show_243 : decode cX13_show 243 = .ok (.goto 4, 3) := by decide +kernel
theorem dX13_show_246 : decode cX13_show 246 = .ok (.iconst 0, 1) := by decide +kernel
theorem dX13_show_247 : decode cX13_show 247 = .ok (.invokevirtual 814, 3) := by decide +kernel
theorem dX13_show_250 : decode cX13_show 250 = .ok (.goto 102, 3) := by decide +kernel
theorem dX13_show_253 : decode cX13_show 253 = .ok (.iload_n 1, 1) := by decide +kernel
theorem dX13_show_254 : decode cX13_show 254 = .ok (.bipush 8, 2) := by decide +kernel
theorem dX13_show_256 : decode cX13_show 256 = .ok (.if_icmp .ne 20, 3) := by decide +kernel
theorem dX13_show_259 : decode cX13_show 259 = .ok (.aload_n 0, 1) := by decide +kernel
theorem dX13_show_260 : decode cX13_show 260 = .ok (.invokevirtual 762, 3) := by decide +kernel
theorem dX13_show_263 : decode cX13_show 263 = .ok (.aload_n 0, 1) := by decide +kernel
theorem dX13_show_264 : decode cX13_show 264 = .ok (.iload_n 2, 1) := by decide +kernel
theorem dX13_show_265 : decode cX13_show 265 = .ok (.invokevirtual 737, 3) := by decide +kernel
theorem dX13_show_268 : decode cX13_show 268 = .ok (.aload_n 0, 1) := by decide +kernel
theorem dX13_show_269 : decode cX13_show 269 = .ok (.iconst 1, 1) := by decide +kernel
theorem dX13_show_270 : decode cX13_show 270 = .ok (.invokevirtual 727, 3) := by decide +kernel
theorem dX13_show_273 : decode cX13_show 273 = .ok (.goto 79, 3) := by decide +kernel
theorem dX13_show_276 : decode cX13_show 276 = .ok (.iload_n 1, 1) := by decide +kernel
theorem dX13_show_277 : decode cX13_show 277 = .ok (.bipush 10, 2) := by decide +kernel
theorem dX13_show_279 : decode cX13_show 279 = .ok (.if_icmp .ne 16, 3) := by decide +kernel
theorem dX13_show_282 : decode cX13_show 282 = .ok (.aload_n 0, 1) := by decide +kernel
theorem dX13_show_283 : decode cX13_show 283 = .ok (.bipush 7, 2) := by decide +kernel
theorem dX13_show_285 : decode cX13_show 285 = .ok (.iconst 0, 1) := by decide +kernel
theorem dX13_show_286 : decode cX13_show 286 = .ok (.iconst 1, 1) := by decide +kernel
theorem dX13_show_287 : decode cX13_show 287 = .ok (.bipush 7, 2) := by decide +kernel
theorem dX13_show_289 : decode cX13_show 289 = .ok (.invokevirtual 810, 3) := by decide +kernel
theorem dX13_show_292 : decode cX13_show 292 = .ok (.goto 60, 3) := by decide +kernel
theorem dX13_show_295 : decode cX13_show 295 = .ok (.iload_n 1, 1) := by decide +kernel
theorem dX13_show_296 : decode cX13_show 296 = .ok (.bipush 11, 2) := by decide +kernel
theorem dX13_show_298 : decode cX13_show 298 = .ok (.if_icmp .ne 29, 3) := by decide +kernel
theorem dX13_show_301 : decode cX13_show 301 = .ok (.aload_n 0, 1) := by decide +kernel
theorem dX13_show_302 : decode cX13_show 302 = .ok (.invokevirtual 762, 3) := by decide +kernel
theorem dX13_show_305 : decode cX13_show 305 = .ok (.aload_n 0, 1) := by decide +kernel
theorem dX13_show_306 : decode cX13_show 306 = .ok (.aload_n 0, 1) := by decide +kernel
theorem dX13_show_307 : decode cX13_show 307 = .ok (.getfield 226, 3) := by decide +kernel
theorem dX13_show_310 : decode cX13_show 310 = .ok (.iload_n 2, 1) := by decide +kernel
theorem dX13_show_311 : decode cX13_show 311 = .ok (.invokevirtual 817, 3) := by decide +kernel
theorem dX13_show_314 : decode cX13_show 314 = .ok (.aload_n 0, 1) := by decide +kernel
theorem dX13_show_315 : decode cX13_show 315 = .ok (.aload_n 0, 1) := by decide +kernel
theorem dX13_show_316 : decode cX13_show 316 = .ok (.getfield 229, 3) := by decide +kernel
theorem dX13_show_319 : decode cX13_show 319 = .ok (.iload_n 2, 1) := by decide +kernel
theorem dX13_show_320 : decode cX13_show 320 = .ok (.iaload, 1) := by decide +kernel
theorem dX13_show_321 : decode cX13_show 321 = .ok (.invokevirtual 727, 3) := by decide +kernel
theorem dX13_show_324 : decode cX13_show 324 = .ok (.goto 28, 3) := by decide +kernel
theorem dX13_show_327 : decode cX13_show 327 = .ok (.aload_n 0, 1) := by decide +kernel
theorem dX13_show_328 : decode cX13_show 328 = .ok (.iconst 4, 1) := by decide +kernel
theorem dX13_show_329 : decode cX13_show 329 = .ok (.bipush 17, 2) := by decide +kernel
theorem dX13_show_331 : decode cX13_show 331 = .ok (.invokevirtual 703, 3) := by decide +kernel
theorem dX13_show_334 : decode cX13_show 334 = .ok (.aload_n 0, 1) := by decide +kernel
theorem dX13_show_335 : decode cX13_show 335 = .ok (.iconst 5, 1) := by decide +kernel
theorem dX13_show_336 : decode cX13_show 336 = .ok (.bipush 18, 2) := by decide +kernel
theorem dX13_show_338 : decode cX13_show 338 = .ok (.invokevirtual 703, 3) := by decide +kernel
theorem dX13_show_341 : decode cX13_show 341 = .ok (.aload_n 0, 1) := by decide +kernel
theorem dX13_show_342 : decode cX13_show 342 = .ok (.iconst 4, 1) := by decide +kernel
theorem dX13_show_343 : decode cX13_show 343 = .ok (.iconst 5, 1) := by decide +kernel
theorem dX13_show_344 : decode cX13_show 344 = .ok (.invokevirtual 721, 3) := by decide +kernel
theorem dX13_show_347 : decode cX13_show 347 = .ok (.aload_n 0, 1) := by decide +kernel
theorem dX13_show_348 : decode cX13_show 348 = .ok (.iconst 1, 1) := by decide +kernel
theorem dX13_show_349 : decode cX13_show 349 = .ok (.putfield 710, 3) := by decide +kernel
theorem dX13_show_352 : decode cX13_show 352 = .ok (.aload_n 0, 1) := by decide +kernel
theorem dX13_show_353 : decode cX13_show 353 = .ok (.bipush 15, 2) := by decide +kernel
theorem dX13_show_355 : decode cX13_show 355 = .ok (.iconst 4, 1) := by decide +kernel
theorem dX13_show_356 : decode cX13_show 356 = .ok (.invokevirtual 703, 3) := by decide +kernel
theorem dX13_show_359 : decode cX13_show 359 = .ok (.aload_n 0, 1) := by decide +kernel
theorem dX13_show_360 : decode cX13_show 360 = .ok (.bipush 16, 2) := by decide +kernel
theorem dX13_show_362 : decode cX13_show 362 = .ok (.iconst 5, 1) := by decide +kernel
theorem dX13_show_363 : decode cX13_show 363 = .ok (.invokevirtual 703, 3) := by decide +kernel
theorem dX13_show_366 : decode cX13_show 366 = .ok (.aload_n 0, 1) := by decide +kernel
theorem dX13_show_367 : decode cX13_show 367 = .ok (.iconst 1, 1) := by decide +kernel
theorem dX13_show_368 : decode cX13_show 368 = .ok (.putfield 821, 3) := by decide +kernel
theorem dX13_show_371 : decode cX13_show 371 = .ok (.aload_n 0, 1) := by decide +kernel
theorem dX13_show_372 : decode cX13_show 372 = .ok (.iconst 4, 1) := by decide +kernel
theorem dX13_show_373 : decode cX13_show 373 = .ok (.invokevirtual 696, 3) := by decide +kernel
theorem dX13_show_376 : decode cX13_show 376 = .ok (.ifCond .eq 7, 3) := by decide +kernel
theorem dX13_show_379 : decode cX13_show 379 = .ok (.iconst 0, 1) := by decide +kernel
theorem dX13_show_380 : decode cX13_show 380 = .ok (.goto 7, 3) := by decide +kernel
theorem dX13_show_383 : decode cX13_show 383 = .ok (.aload_n 0, 1) := by decide +kernel
theorem dX13_show_384 : decode cX13_show 384 = .ok (.getfield 710, 3) := by decide +kernel
theorem dX13_show_387 : decode cX13_show 387 = .ok (.ireturn, 1) := by decide +kernel
theorem dX13_tell_0 : decode cX13_tell 0 = .ok (.aload_n 0, 1) := by decide +kernel
theorem dX13_tell_1 : decode cX13_tell 1 = .ok (.aload_n 0, 1) := by decide +kernel
theorem dX13_tell_2 : decode cX13_tell 2 = .ok (.getfield 827, 3) := by decide +kernel
theorem dX13_tell_5 : decode cX13_tell 5 = .ok (.sipush 200, 3) := by decide +kernel
theorem dX13_tell_8 : decode cX13_tell 8 = .ok (.if_icmp .ne 7, 3) := by decide +kernel
theorem dX13_tell_11 : decode cX13_tell 11 = .ok (.iconst 1, 1) := by decide +kernel
theorem dX13_tell_12 : decode cX13_tell 12 = .ok (.goto 4, 3) := by decide +kernel
theorem dX13_tell_15 : decode cX13_tell 15 = .ok (.iconst 0, 1) := by decide +kernel
theorem dX13_tell_16 : decode cX13_tell 16 = .ok (.putfield 1, 3) := by decide +kernel
theorem dX13_tell_19 : decode cX13_tell 19 = .ok (.aload_n 0, 1) := by decide +kernel
theorem dX13_tell_20 : decode cX13_tell 20 = .ok (.getfield 1, 3) := by decide +kernel
theorem dX13_tell_23 : decode cX13_tell 23 = .ok (.ifCond .le 5, 3) := by decide +kernel
theorem dX13_tell_26 : decode cX13_tell 26 = .ok (.iconst 0, 1) := by decide +kernel
theorem dX13_tell_27 : decode cX13_tell 27 = .ok (.ireturn, 1) := by decide +kernel
theorem dX13_tell_28 : decode cX13_tell 28 = .ok (.aload_n 0, 1) := by decide +kernel
theorem dX13_tell_29 : decode cX13_tell 29 = .ok (.getfield 217, 3) := by decide +kernel
theorem dX13_tell_32 : decode cX13_tell 32 = .ok (.aload_n 0, 1) := by decide +kernel
theorem dX13_tell_33 : decode cX13_tell 33 = .ok (.getfield 827, 3) := by decide +kernel
theorem dX13_tell_36 : decode cX13_tell 36 = .ok (.iload_n 1, 1) := by decide +kernel
theorem dX13_tell_37 : decode cX13_tell 37 = .ok (.iastore, 1) := by decide +kernel
theorem dX13_tell_38 : decode cX13_tell 38 = .ok (.aload_n 0, 1) := by decide +kernel
theorem dX13_tell_39 : decode cX13_tell 39 = .ok (.dup, 1) := by decide +kernel
theorem dX13_tell_40 : decode cX13_tell 40 = .ok (.getfield 827, 3) := by decide +kernel
theorem dX13_tell_43 : decode cX13_tell 43 = .ok (.iconst 1, 1) := by decide +kernel
theorem dX13_tell_44 : decode cX13_tell 44 = .ok (.iadd, 1) := by decide +kernel
theorem dX13_tell_45 : decode cX13_tell 45 = .ok (.putfield 827, 3) := by decide +kernel
theorem dX13_tell_48 : decode cX13_tell 48 = .ok (.aload_n 0, 1) := by decide +kernel
theorem dX13_tell_49 : decode cX13_tell 49 = .ok (.getfield 827, 3) := by decide +kernel
theorem dX13_tell_52 : decode cX13_tell 52 = .ok (.ireturn, 1) := by decide +kernel
theorem dX13_forget_0 : decode cX13_forget 0 = .ok (.aload_n 0, 1) := by decide +kernel
theorem dX13_forget_1 : decode cX13_forget 1 = .ok (.iconst 0, 1) := by decide +kernel
theorem dX13_forget_2 : decode cX13_forget 2 = .ok (.putfield 1, 3) := by decide +kernel
theorem dX13_forget_5 : decode cX13_forget 5 = .ok (.aload_n 0, 1) := by decide +kernel
theorem dX13_forget_6 : decode cX13_forget 6 = .ok (.getfield 827, 3) := by decide +kernel
theorem dX13_forget_9 : decode cX13_forget 9 = .ok (.istore_n 1, 1) := by decide +kernel
theorem dX13_forget_10 : decode cX13_forget 10 = .ok (.aload_n 0, 1) := by decide +kernel
theorem dX13_forget_11 : decode cX13_forget 11 = .ok (.iconst 0, 1) := by decide +kernel
theorem dX13_forget_12 : decode cX13_forget 12 = .ok (.putfield 827, 3) := by decide +kernel
theorem dX13_forget_15 : decode cX13_forget 15 = .ok (.iload_n 1, 1) := by decide +kernel
theorem dX13_forget_16 : decode cX13_forget 16 = .ok (.ireturn, 1) := by decide +kernel
set_option maxRecDepth 20000 in
theorem ggX13_go__X13_within : GoodIn wsX13_go_ wsX13_within := goodIn_r _ [15] (by decide +kernel) (by decide +kernel)
set_option maxRecDepth 20000 in
theorem gX13_go__X13_within : GoodIn wsX13_go_ (va_wsS RX13 362 yX13_within wsX13_within) := goodIn_app (goodIn_of _ (by decide +kernel)) ggX13_go__X13_within
set_option maxRecDepth 20000 in
theorem ggX13_go__X13_set : GoodIn wsX13_go_ wsX13_set := goodIn_ca (goodIn_r _ [19, 20, 21, 22, 23, 286, 287, 288, 289, 290, 291, 292, 293, 294, 295, 296, 297, 298, 299, 300, 301, 302, 303, 304, 305, 306, 307, 308, 309, 310, 311, 312, 313, 314, 315, 316, 317, 318, 319, 320, 321, 322, 323, 324, 325, 326, 327, 328, 329, 330, 331, 332, 333, 334, 335, 336, 337, 338, 339, 340, 341, 342, 343, 344, 345, 346, 347, 348, 349, 350, 351, 352, 353, 354, 355, 356, 357, 358, 359, 360, 361, 362, 363, 364, 365, 366, 367, 368, 369, 370, 371, 372, 373, 374, 375, 376, 377, 378, 379, 380, 381, 382, 383, 384, 385, 386, 387, 388, 389, 390, 391, 392, 393, 394, 395, 396, 397, 398, 399, 400, 401, 402, 403, 404, 405, 406, 407, 408, 409, 410, 411] (by decide +kernel) (by decide +kernel)) (goodIn_sub (fun _ h => List.mem_cons_of_mem _ (List.mem_append_right _ h)) (by decide +kernel))
set_option maxRecDepth 20000 in
theorem gX13_go__X13_set : GoodIn wsX13_go_ (wsV RX13 699 RX13 yX13_set wsX13_set) := goodIn_app (goodIn_of _ (by decide +kernel)) ggX13_go__X13_set
set_option maxRecDepth 20000 in
theorem ggX13_go__X13_begin : GoodIn wsX13_go_ wsX13_begin := goodIn_ca (goodIn_r _ [27, 11, 28, 29, 30, 31, 32, 33, 34, 35, 36, 14, 37, 38, 39, 40, 41, 42, 8, 43, 44, 45, 46, 47, 48, 49, 50, 286, 287, 288, 289, 290, 291, 292, 293, 294, 295, 296, 297, 298, 299, 300, 301, 302, 303, 304, 305, 306, 307, 308, 309, 310, 311, 312, 313, 314, 315, 316, 317, 318, 319, 320, 321, 322, 323, 324, 325, 326, 327, 328, 329, 330, 331, 332, 333, 334, 335, 336, 337, 338, 339, 340, 341, 342, 343, 344, 345, 346, 347, 348, 349, 350, 351, 352, 353, 354, 355, 356, 357, 358, 359, 360, 361, 362, 363, 364, 365, 366, 367, 368, 369, 370, 371, 372, 373, 374, 375, 376, 377, 378, 379, 380, 381, 382, 383, 384, 385, 386, 387, 388, 389, 390, 391, 392, 393, 394, 395, 396, 397, 398, 399, 400, 401, 402, 403, 404, 405, 406, 407, 408, 409, 410, 411] (by decide +kernel) (by decide +kernel)) (goodIn_sub (fun _ h => List.mem_cons_of_mem _ (List.mem_append_right _ h)) (by decide +kernel))
set_option maxRecDepth 20000 in
theorem gX13_go__X13_begin : GoodIn wsX13_go_ (wsV RX13 631 RX13 yX13_begin wsX13_begin) := goodIn_app (goodIn_of _ (by decide +kernel)) ggX13_go__X13_begin
set_option maxRecDepth 20000 in
theorem ggX13_go__X13_act : GoodIn wsX13_go_ wsX13_act := goodIn_ca (goodIn_r _ [54, 38, 30, 55, 56, 57, 58, 6, 59, 44, 60, 46, 61, 62, 63, 64, 65, 14, 66, 45, 67, 68, 69, 31, 32, 70, 71, 72, 73, 74, 75, 76, 77, 78, 79, 80, 81, 82, 83, 84, 85, 86, 87, 88, 89, 90, 91, 92, 93, 94, 95, 96, 97, 98, 99, 100, 101, 102, 103, 104, 105, 106, 107, 108, 109, 110, 111, 112, 113, 114, 115, 116, 117, 118, 119, 120, 121, 122, 123, 124, 125, 126, 127, 128, 129, 130, 131, 132, 133, 134, 135, 136, 137, 138, 139, 140, 141, 142, 143, 144, 145, 146, 147, 148, 149, 150, 151, 152, 153, 154, 155, 156, 28, 157, 158, 159, 160, 161, 162, 163, 164, 165, 11, 166, 167, 168, 169, 170, 171, 172, 173, 174, 175, 176, 177, 178, 179, 180, 181, 182, 183, 184, 185, 186, 187, 188, 189, 190, 191, 192, 193, 194, 195, 196, 197, 198, 199, 200, 201, 8, 34, 35, 36, 37, 39, 40, 41, 42, 43, 47, 48, 49, 50, 202, 203, 204, 205, 206, 207, 208, 209, 210, 211, 212, 213, 214, 215, 216, 217, 218, 219, 220, 221, 222, 223, 224, 225, 226, 12, 13, 15, 227, 228, 229, 230, 286, 287, 288, 289, 290, 291, 292, 293, 294, 295, 296, 297, 298, 299, 300, 301, 302, 303, 304, 305, 306, 307, 308, 309, 310, 311, 312, 313, 314, 315, 316, 317, 318, 319, 320, 321, 322, 323, 324, 325, 326, 327, 328, 329, 330, 331, 332, 333, 334, 335, 336, 337, 338, 339, 340, 341, 342, 343, 344, 345, 346, 347, 348, 349, 350, 351, 352, 353, 354, 355, 356, 357, 358, 359, 360, 361, 362, 363, 364, 365, 366, 367, 368, 369, 370, 371, 372, 373, 374, 375, 376, 377, 378, 379, 380, 381, 382, 383, 384, 385, 386, 387, 388, 389, 390, 391, 392, 393, 394, 395, 396, 397, 398, 399, 400, 401, 402, 403, 404, 405, 406, 407, 408, 409, 410, 411] (by decide +kernel) (by decide +kernel)) (goodIn_sub (fun _ h => List.mem_cons_of_mem _ (List.mem_append_right _ h)) (by decide +kernel))
set_option maxRecDepth 20000 in
theorem gX13_go__X13_act : GoodIn wsX13_go_ (wsV RX13 621 RX13 yX13_act wsX13_act) := goodIn_app (goodIn_of _ (by decide +kernel)) ggX13_go__X13_act
set_option maxRecDepth 20000 in
theorem ggX13_go__X13_draws : GoodIn wsX13_go_ wsX13_draws := goodIn_ca (goodIn_r _ [234, 3, 4, 216, 215, 235, 236, 237, 14, 238, 239, 240, 241, 214, 242, 243, 244, 245, 246, 247, 198, 199, 200, 201, 8, 16, 17, 18, 19, 20, 21, 22, 23, 248, 249, 250, 251, 252, 253, 254, 255, 256, 257, 258, 259, 260, 261, 262, 263, 62, 226, 46, 38, 30, 47, 48, 49, 50, 11, 31, 34, 35, 36, 37, 39, 40, 41, 42, 43, 44, 45, 286, 287, 288, 289, 290, 291, 292, 293, 294, 295, 296, 297, 298, 299, 300, 301, 302, 303, 304, 305, 306, 307, 308, 309, 310, 311, 312, 313, 314, 315, 316, 317, 318, 319, 320, 321, 322, 323, 324, 325, 326, 327, 328, 329, 330, 331, 332, 333, 334, 335, 336, 337, 338, 339, 340, 341, 342, 343, 344, 345, 346, 347, 348, 349, 350, 351, 352, 353, 354, 355, 356, 357, 358, 359, 360, 361, 362, 363, 364, 365, 366, 367, 368, 369, 370, 371, 372, 373, 374, 375, 376, 377, 378, 379, 380, 381, 382, 383, 384, 385, 386, 387, 388, 389, 390, 391, 392, 393, 394, 395, 396, 397, 398, 399, 400, 401, 402, 403, 404, 405, 406, 407, 408, 409, 410, 411] (by decide +kernel) (by decide +kernel)) (goodIn_sub (fun _ h => List.mem_cons_of_mem _ (List.mem_append_right _ h)) (by decide +kernel))
set_option maxRecDepth 20000 in
theorem gX13_go__X13_draws : GoodIn wsX13_go_ (wsV RX13 853 RX13 yX13_draws wsX13_draws) := goodIn_app (goodIn_of _ (by decide +kernel)) ggX13_go__X13_draws
set_option maxRecDepth 20000 in
theorem ggX13_go__X13_chooses : GoodIn wsX13_go_ wsX13_chooses := goodIn_ca (goodIn_r _ [267, 268, 269, 270, 271, 272, 14, 273, 274, 275, 276, 277, 278, 279, 280, 30, 11, 38, 31, 281, 282, 283, 284, 285, 260, 261, 262, 263, 62, 226, 46, 47, 48, 49, 50, 34, 35, 36, 37, 39, 40, 41, 42, 8, 43, 44, 45, 286, 287, 288, 289, 290, 291, 292, 293, 294, 295, 296, 297, 298, 299, 300, 301, 302, 303, 304, 305, 306, 307, 308, 309, 310, 311, 312, 313, 314, 315, 316, 317, 318, 319, 320, 321, 322, 323, 324, 325, 326, 327, 328, 329, 330, 331, 332, 333, 334, 335, 336, 337, 338, 339, 340, 341, 342, 343, 344, 345, 346, 347, 348, 349, 350, 351, 352, 353, 354, 355, 356, 357, 358, 359, 360, 361, 362, 363, 364, 365, 366, 367, 368, 369, 370, 371, 372, 373, 374, 375, 376, 377, 378, 379, 380, 381, 382, 383, 384, 385, 386, 387, 388, 389, 390, 391, 392, 393, 394, 395, 396, 397, 398, 399, 400, 401, 402, 403, 404, 405, 406, 407, 408, 409, 410, 411] (by decide +kernel) (by decide +kernel)) (goodIn_sub (fun _ h => List.mem_cons_of_mem _ (List.mem_append_right _ h)) (by decide +kernel))
set_option maxRecDepth 20000 in
theorem gX13_go__X13_chooses : GoodIn wsX13_go_ (wsV RX13 856 RX13 yX13_chooses wsX13_chooses) := goodIn_app (goodIn_of _ (by decide +kernel)) ggX13_go__X13_chooses
theorem dX13_go__0 : decode cX13_go_ 0 = .ok (.aload_n 0, 1) := by decide +kernel
theorem dX13_go__1 : decode cX13_go_ 1 = .ok (.aload_n 0, 1) := by decide +kernel
theorem dX13_go__2 : decode cX13_go_ 2 = .ok (.getfield 529, 3) := by decide +kernel
theorem dX13_go__5 : decode cX13_go_ 5 = .ok (.ifCond .ne 7, 3) := by decide +kernel
theorem dX13_go__8 : decode cX13_go_ 8 = .ok (.iconst 1, 1) := by decide +kernel
theorem dX13_go__9 : decode cX13_go_ 9 = .ok (.goto 19, 3) := by decide +kernel
theorem dX13_go__12 : decode cX13_go_ 12 = .ok (.iload_n 1, 1) := by decide +kernel
theorem dX13_go__13 : decode cX13_go_ 13 = .ok (.iconst 0, 1) := by decide +kernel
theorem dX13_go__14 : decode cX13_go_ 14 = .ok (.sipush 2000, 3) := by decide +kernel
theorem dX13_go__17 : decode cX13_go_ 17 = .ok (.invokestatic 362, 3) := by decide +kernel
theorem dX13_go__20 : decode cX13_go_ 20 = .ok (.ifCond .ne 7, 3) := by decide +kernel
theorem dX13_go__23 : decode cX13_go_ 23 = .ok (.iconst 2, 1) := by decide +kernel
theorem dX13_go__24 : decode cX13_go_ 24 = .ok (.goto 4, 3) := by decide +kernel
theorem dX13_go__27 : decode cX13_go_ 27 = .ok (.iconst 0, 1) := by decide +kernel
theorem dX13_go__28 : decode cX13_go_ 28 = .ok (.putfield 1, 3) := by decide +kernel
theorem dX13_go__31 : decode cX13_go_ 31 = .ok (.aload_n 0, 1) := by decide +kernel
theorem dX13_go__32 : decode cX13_go_ 32 = .ok (.getfield 1, 3) := by decide +kernel
theorem dX13_go__35 : decode cX13_go_ 35 = .ok (.ifCond .le 5, 3) := by decide +kernel
theorem dX13_go__38 : decode cX13_go_ 38 = .ok (.iconst 0, 1) := by decide +kernel
theorem dX13_go__39 : decode cX13_go_ 39 = .ok (.ireturn, 1) := by decide +kernel
theorem dX13_go__40 : decode cX13_go_ 40 = .ok (.aload_n 0, 1) := by decide +kernel
theorem dX13_go__41 : decode cX13_go_ 41 = .ok (.iconst 0, 1) := by decide +kernel
theorem dX13_go__42 : decode cX13_go_ 42 = .ok (.putfield 847, 3) := by decide +kernel
theorem dX13_go__45 : decode cX13_go_ 45 = .ok (.aload_n 0, 1) := by decide +kernel
theorem dX13_go__46 : decode cX13_go_ 46 = .ok (.iconst 0, 1) := by decide +kernel
theorem dX13_go__47 : decode cX13_go_ 47 = .ok (.putfield 833, 3) := by decide +kernel
theorem dX13_go__50 : decode cX13_go_ 50 = .ok (.aload_n 0, 1) := by decide +kernel
theorem dX13_go__51 : decode cX13_go_ 51 = .ok (.lconst 0, 1) := by decide +kernel
theorem dX13_go__52 : decode cX13_go_ 52 = .ok (.putfield 850, 3) := by decide +kernel
theorem dX13_go__55 : decode cX13_go_ 55 = .ok (.aload_n 0, 1) := by decide +kernel
theorem dX13_go__56 : decode cX13_go_ 56 = .ok (.bipush 17, 2) := by decide +kernel
theorem dX13_go__58 : decode cX13_go_ 58 = .ok (.lconst 1, 1) := by decide +kernel
theorem dX13_go__59 : decode cX13_go_ 59 = .ok (.invokevirtual 699, 3) := by decide +kernel
theorem dX13_go__62 : decode cX13_go_ 62 = .ok (.aload_n 0, 1) := by decide +kernel
theorem dX13_go__63 : decode cX13_go_ 63 = .ok (.bipush 18, 2) := by decide +kernel
theorem dX13_go__65 : decode cX13_go_ 65 = .ok (.lconst 1, 1) := by decide +kernel
theorem dX13_go__66 : decode cX13_go_ 66 = .ok (.invokevirtual 699, 3) := by decide +kernel
theorem dX13_go__69 : decode cX13_go_ 69 = .ok (.aload_n 0, 1) := by decide +kernel
theorem dX13_go__70 : decode cX13_go_ 70 = .ok (.invokevirtual 631, 3) := by decide +kernel
theorem dX13_go__73 : decode cX13_go_ 73 = .ok (.istore_n 2, 1) := by decide +kernel
theorem dX13_go__74 : decode cX13_go_ 74 = .ok (.iconst 0, 1) := by decide +kernel
theorem dX13_go__75 : decode cX13_go_ 75 = .ok (.istore_n 3, 1) := by decide +kernel
theorem dX13_go__76 : decode cX13_go_ 76 = .ok (.iload_n 2, 1) := by decide +kernel
theorem dX13_go__77 : decode cX13_go_ 77 = .ok (.ifCond .ne 98, 3) := by decide +kernel
theorem dX13_go__80 : decode cX13_go_ 80 = .ok (.iload_n 3, 1) := by decide +kernel
theorem dX13_go__81 : decode cX13_go_ 81 = .ok (.ifCond .ne 94, 3) := by decide +kernel
theorem dX13_go__84 : decode cX13_go_ 84 = .ok (.aload_n 0, 1) := by decide +kernel
theorem dX13_go__85 : decode cX13_go_ 85 = .ok (.getfield 847, 3) := by decide +kernel
theorem dX13_go__88 : decode cX13_go_ 88 = .ok (.iload_n 1, 1) := by decide +kernel
theorem dX13_go__89 : decode cX13_go_ 89 = .ok (.if_icmp .ne 8, 3) := by decide +kernel
theorem dX13_go__92 : decode cX13_go_ 92 = .ok (.iconst 1, 1) := by decide +kernel
theorem dX13_go__93 : decode cX13_go_ 93 = .ok (.istore_n 3, 1) := by decide +kernel
theorem dX13_go__94 : decode cX13_go_ 94 = .ok (.goto (-18), 3) := by decide +kernel
theorem dX13_go__97 : decode cX13_go_ 97 = .ok (.aload_n 0, 1) := by decide +kernel
theorem dX13_go__98 : decode cX13_go_ 98 = .ok (.invokevirtual 621, 3) := by decide +kernel
theorem dX13_go__101 : decode cX13_go_ 101 = .ok (.istore_n 2, 1) := by decide +kernel
theorem dX13_go__102 : decode cX13_go_ 102 = .ok (.aload_n 0, 1) := by decide +kernel
theorem dX13_go__103 : decode cX13_go_ 103 = .ok (.dup, 1) := by decide +kernel
theorem dX13_go__104 : decode cX13_go_ 104 = .ok (.getfield 847, 3) := by decide +kernel
theorem dX13_go__107 : decode cX13_go_ 107 = .ok (.iconst 1, 1) := by decide +kernel
theorem dX13_go__108 : decode cX13_go_ 108 = .ok (.iadd, 1) := by decide +kernel
theorem dX13_go__109 : decode cX13_go_ 109 = .ok (.putfield 847, 3) := by decide +kernel
theorem dX13_go__112 : decode cX13_go_ 112 = .ok (.aload_n 0, 1) := by decide +kernel
theorem dX13_go__113 : decode cX13_go_ 113 = .ok (.dup, 1) := by decide +kernel
theorem dX13_go__114 : decode cX13_go_ 114 = .ok (.getfield 850, 3) := by decide +kernel
theorem dX13_go__117 : decode cX13_go_ 117 = .ok (.iload_n 2, 1) := by decide +kernel
theorem dX13_go__118 : decode cX13_go_ 118 = .ok (.iconst 2, 1) := by decide +kernel
theorem dX13_go__119 : decode cX13_go_ 119 = .ok (.if_icmp .ne 7, 3) := by decide +kernel
theorem dX13_go__122 : decode cX13_go_ 122 = .ok (.lconst 0, 1) := by decide +kernel
theorem dX13_go__123 : decode cX13_go_ 123 = .ok (.goto 8, 3) := by decide +kernel
theorem dX13_go__126 : decode cX13_go_ 126 = .ok (.aload_n 0, 1) := by decide +kernel
theorem dX13_go__127 : decode cX13_go_ 127 = .ok (.getfield 585, 3) := by decide +kernel
theorem dX13_go__130 : decode cX13_go_ 130 = .ok (.i2l, 1) := by decide +kernel
theorem dX13_go__131 : decode cX13_go_ 131 = .ok (.ladd, 1) := by decide +kernel
theorem dX13_go__132 : decode cX13_go_ 132 = .ok (.putfield 850, 3) := by decide +kernel
theorem dX13_go__135 : decode cX13_go_ 135 = .ok (.iload_n 2, 1) := by decide +kernel
theorem dX13_go__136 : decode cX13_go_ 136 = .ok (.iconst 4, 1) := by decide +kernel
theorem dX13_go__137 : decode cX13_go_ 137 = .ok (.if_icmp .ne 10, 3) := by decide +kernel
theorem dX13_go__140 : decode cX13_go_ 140 = .ok (.aload_n 0, 1) := by decide +kernel
theorem dX13_go__141 : decode cX13_go_ 141 = .ok (.invokevirtual 853, 3) := by decide +kernel
theorem dX13_go__144 : decode cX13_go_ 144 = .ok (.goto 16, 3) := by decide +kernel
theorem dX13_go__147 : decode cX13_go_ 147 = .ok (.iload_n 2, 1) := by decide +kernel
theorem dX13_go__148 : decode cX13_go_ 148 = .ok (.iconst 5, 1) := by decide +kernel
theorem dX13_go__149 : decode cX13_go_ 149 = .ok (.if_icmp .ne 10, 3) := by decide +kernel
theorem dX13_go__152 : decode cX13_go_ 152 = .ok (.aload_n 0, 1) := by decide +kernel
theorem dX13_go__153 : decode cX13_go_ 153 = .ok (.invokevirtual 856, 3) := by decide +kernel
theorem dX13_go__156 : decode cX13_go_ 156 = .ok (.goto 4, 3) := by decide +kernel
theorem dX13_go__159 : decode cX13_go_ 159 = .ok (.iload_n 2, 1) := by decide +kernel
theorem dX13_go__160 : decode cX13_go_ 160 = .ok (.istore_n 2, 1) := by decide +kernel
theorem dX13_go__161 : decode cX13_go_ 161 = .ok (.iload_n 2, 1) := by decide +kernel
theorem dX13_go__162 : decode cX13_go_ 162 = .ok (.iconst 5, 1) := by decide +kernel
theorem dX13_go__163 : decode cX13_go_ 163 = .ok (.if_icmp .ne 7, 3) := by decide +kernel
theorem dX13_go__166 : decode cX13_go_ 166 = .ok (.iconst 1, 1) := by decide +kernel
theorem dX13_go__167 : decode cX13_go_ 167 = .ok (.goto 4, 3) := by decide +kernel
theorem dX13_go__170 : decode cX13_go_ 170 = .ok (.iconst 0, 1) := by decide +kernel
theorem dX13_go__171 : decode cX13_go_ 171 = .ok (.istore_n 3, 1) := by decide +kernel
theorem dX13_go__172 : decode cX13_go_ 172 = .ok (.goto (-96), 3) := by decide +kernel
theorem dX13_go__175 : decode cX13_go_ 175 = .ok (.aload_n 0, 1) := by decide +kernel
theorem dX13_go__176 : decode cX13_go_ 176 = .ok (.iload_n 3, 1) := by decide +kernel
theorem dX13_go__177 : decode cX13_go_ 177 = .ok (.ifCond .eq 7, 3) := by decide +kernel
theorem dX13_go__180 : decode cX13_go_ 180 = .ok (.iconst 0, 1) := by decide +kernel
theorem dX13_go__181 : decode cX13_go_ 181 = .ok (.goto 4, 3) := by decide +kernel
theorem dX13_go__184 : decode cX13_go_ 184 = .ok (.iload_n 2, 1) := by decide +kernel
theorem dX13_go__185 : decode cX13_go_ 185 = .ok (.putfield 220, 3) := by decide +kernel
theorem dX13_go__188 : decode cX13_go_ 188 = .ok (.aload_n 0, 1) := by decide +kernel
theorem dX13_go__189 : decode cX13_go_ 189 = .ok (.aload_n 0, 1) := by decide +kernel
theorem dX13_go__190 : decode cX13_go_ 190 = .ok (.getfield 220, 3) := by decide +kernel
theorem dX13_go__193 : decode cX13_go_ 193 = .ok (.iconst 1, 1) := by decide +kernel
theorem dX13_go__194 : decode cX13_go_ 194 = .ok (.if_icmp .eq 11, 3) := by decide +kernel
theorem dX13_go__197 : decode cX13_go_ 197 = .ok (.aload_n 0, 1) := by decide +kernel
theorem dX13_go__198 : decode cX13_go_ 198 = .ok (.getfield 220, 3) := by decide +kernel
theorem dX13_go__201 : decode cX13_go_ 201 = .ok (.iconst 2, 1) := by decide +kernel
theorem dX13_go__202 : decode cX13_go_ 202 = .ok (.if_icmp .ne 10, 3) := by decide +kernel
theorem dX13_go__205 : decode cX13_go_ 205 = .ok (.aload_n 0, 1) := by decide +kernel
theorem dX13_go__206 : decode cX13_go_ 206 = .ok (.getfield 554, 3) := by decide +kernel
theorem dX13_go__209 : decode cX13_go_ 209 = .ok (.goto 4, 3) := by decide +kernel
theorem dX13_go__212 : decode cX13_go_ 212 = .ok (.iconst 0, 1) := by decide +kernel
theorem dX13_go__213 : decode cX13_go_ 213 = .ok (.putfield 859, 3) := by decide +kernel
theorem dX13_go__216 : decode cX13_go_ 216 = .ok (.iconst 0, 1) := by decide +kernel
theorem dX13_go__217 : decode cX13_go_ 217 = .ok (.istore 4, 2) := by decide +kernel
theorem dX13_go__219 : decode cX13_go_ 219 = .ok (.iload 4, 2) := by decide +kernel
theorem dX13_go__221 : decode cX13_go_ 221 = .ok (.bipush 34, 2) := by decide +kernel
theorem dX13_go__223 : decode cX13_go_ 223 = .ok (.if_icmp .ge 23, 3) := by decide +kernel
theorem dX13_go__226 : decode cX13_go_ 226 = .ok (.aload_n 0, 1) := by decide +kernel
theorem dX13_go__227 : decode cX13_go_ 227 = .ok (.getfield 223, 3) := by decide +kernel
theorem dX13_go__230 : decode cX13_go_ 230 = .ok (.iload 4, 2) := by decide +kernel
theorem dX13_go__232 : decode cX13_go_ 232 = .ok (.aload_n 0, 1) := by decide +kernel
theorem dX13_go__233 : decode cX13_go_ 233 = .ok (.getfield 122, 3) := by decide +kernel
theorem dX13_go__236 : decode cX13_go_ 236 = .ok (.iload 4, 2) := by decide +kernel
theorem dX13_go__238 : decode cX13_go_ 238 = .ok (.iaload, 1) := by decide +kernel
theorem dX13_go__239 : decode cX13_go_ 239 = .ok (.iastore, 1) := by decide +kernel
theorem dX13_go__240 : decode cX13_go_ 240 = .ok (.iinc 4 1, 3) := by decide +kernel
theorem dX13_go__243 : decode cX13_go_ 243 = .ok (.goto (-24), 3) := by decide +kernel
theorem dX13_go__246 : decode cX13_go_ 246 = .ok (.aload_n 0, 1) := by decide +kernel
theorem dX13_go__247 : decode cX13_go_ 247 = .ok (.getfield 220, 3) := by decide +kernel
theorem dX13_go__250 : decode cX13_go_ 250 = .ok (.ireturn, 1) := by decide +kernel
set_option maxRecDepth 20000 in
theorem ggX13_play_X13_go_ : GoodIn wsX13_play wsX13_go_ := goodIn_ca (goodIn_r _ [7, 8, 9, 10, 11, 12, 13, 14, 15, 16, 17, 18, 19, 20, 6, 21, 22, 23, 24, 25, 26, 27, 28, 29, 30, 31, 32, 33, 34, 35, 36, 37, 38, 39, 40, 41, 42, 43, 44, 45, 46, 47, 48, 49, 50, 51, 52, 53, 54, 55, 56, 57, 58, 59, 60, 61, 62, 63, 64, 65, 66, 67, 68, 69, 70, 71, 72, 73, 74, 75, 76, 77, 78, 79, 80, 81, 82, 83, 84, 85, 86, 87, 88, 89, 90, 91, 92, 93, 94, 95, 96, 97, 98, 99, 100, 101, 102, 103, 104, 105, 106, 107, 108, 109, 110, 111, 112, 113, 114, 115, 116, 117, 118, 119, 120, 121, 122, 123, 124, 125, 126, 127, 128, 129, 130, 131, 132, 133, 134, 135, 136, 137, 138, 139, 140, 141, 142, 143, 144, 145, 146, 147, 148, 149, 150, 151, 152, 153, 154, 155, 156, 157, 158, 159, 160, 161, 162, 163, 164, 165, 166, 167, 168, 169, 170, 171, 172, 173, 174, 175, 176, 177, 178, 179, 180, 181, 182, 183, 184, 185, 186, 187, 188, 189, 190, 191, 192, 193, 194, 195, 196, 197, 198, 199, 200, 201, 202, 203, 204, 205, 206, 207, 208, 209, 210, 211, 212, 213, 214, 215, 216, 217, 218, 219, 220, 221, 222, 223, 224, 225, 226, 227, 228, 229, 230, 231, 232, 233, 234, 235, 236, 237, 238, 239, 240, 241, 242, 243, 244, 2, 245, 246, 1, 247, 248, 249, 250, 251, 252, 253, 254, 255, 256, 257, 258, 259, 260, 261, 262, 263, 264, 265, 266, 267, 268, 269, 270, 271, 272, 273, 274, 275, 276, 277, 278, 279, 280, 281, 282, 283, 284, 285, 286, 287, 288, 289, 290, 291, 292, 293, 294, 295, 296, 297, 298, 299, 300, 301, 302, 303, 304, 305, 306, 307, 308, 309, 310, 311, 312, 313, 314, 315, 316, 317, 318, 319, 320, 321, 322, 323, 324, 325, 326, 327, 328, 329, 330, 331, 332, 333, 334, 335, 336, 337, 338, 339, 340, 341, 342, 343, 344, 345, 346, 347, 348, 349, 350, 351, 352, 353, 354, 355, 356, 357, 358, 359, 360, 361, 362, 363, 364, 365, 366, 367, 368, 369, 370, 371, 372, 373, 374, 375, 376, 377, 378, 379, 380, 381, 382, 383, 384, 385, 386, 387, 388, 389, 390, 391, 392, 393, 394, 395, 396, 397, 398, 399, 400, 401, 402, 403, 404, 405, 406, 407, 408, 409, 410, 411, 412, 413, 414, 415] (by decide +kernel) (by decide +kernel)) (goodIn_sub (fun _ h => List.mem_cons_of_mem _ (List.mem_append_right _ h)) (by decide +kernel))
set_option maxRecDepth 20000 in
theorem gX13_play_X13_go_ : GoodIn wsX13_play (wsV RX13 862 RX13 yX13_go_ wsX13_go_) := goodIn_app (goodIn_of _ (by decide +kernel)) ggX13_play_X13_go_
theorem dX13_play_0 : decode cX13_play 0 = .ok (.aload_n 0, 1) := by decide +kernel
theorem dX13_play_1 : decode cX13_play 1 = .ok (.lload_n 1, 1) := by decide +kernel
theorem dX13_play_2 : decode cX13_play 2 = .ok (.putfield 836, 3) := by decide +kernel
theorem dX13_play_5 : decode cX13_play 5 = .ok (.aload_n 0, 1) := by decide +kernel
theorem dX13_play_6 : decode cX13_play 6 = .ok (.iconst 1, 1) := by decide +kernel
theorem dX13_play_7 : decode cX13_play 7 = .ok (.putfield 830, 3) := by decide +kernel
theorem dX13_play_10 : decode cX13_play 10 = .ok (.aload_n 0, 1) := by decide +kernel
theorem dX13_play_11 : decode cX13_play 11 = .ok (.iload_n 3, 1) := by decide +kernel
theorem dX13_play_12 : decode cX13_play 12 = .ok (.invokevirtual 862, 3) := by decide +kernel
theorem dX13_play_15 : decode cX13_play 15 = .ok (.ireturn, 1) := by decide +kernel
set_option maxRecDepth 20000 in
theorem ggX13_walk_X13_go_ : GoodIn wsX13_walk wsX13_go_ := goodIn_ca (goodIn_r _ [6, 7, 8, 9, 10, 11, 12, 13, 14, 15, 16, 17, 18, 19, 5, 20, 21, 22, 23, 24, 25, 26, 27, 28, 29, 30, 31, 32, 33, 34, 35, 36, 37, 38, 39, 40, 41, 42, 43, 44, 45, 46, 47, 48, 49, 50, 51, 52, 53, 54, 55, 56, 57, 58, 59, 60, 61, 62, 63, 64, 65, 66, 67, 68, 69, 70, 71, 72, 73, 74, 75, 76, 77, 78, 79, 80, 81, 82, 83, 84, 85, 86, 87, 88, 89, 90, 91, 92, 93, 94, 95, 96, 97, 98, 99, 100, 101, 102, 103, 104, 105, 106, 107, 108, 109, 110, 111, 112, 113, 114, 115, 116, 117, 118, 119, 120, 121, 122, 123, 124, 125, 126, 127, 128, 129, 130, 131, 132, 133, 134, 135, 136, 137, 138, 139, 140, 141, 142, 143, 144, 145, 146, 147, 148, 149, 150, 151, 152, 153, 154, 155, 156, 157, 158, 159, 160, 161, 162, 163, 164, 165, 166, 167, 168, 169, 170, 171, 172, 173, 174, 175, 176, 177, 178, 179, 180, 181, 182, 183, 184, 185, 186, 187, 188, 189, 190, 191, 192, 193, 194, 195, 196, 197, 198, 199, 200, 201, 202, 203, 204, 205, 206, 207, 208, 209, 210, 211, 212, 213, 214, 215, 216, 217, 218, 219, 220, 221, 222, 223, 224, 225, 226, 227, 228, 229, 230, 231, 232, 233, 234, 235, 236, 237, 238, 239, 240, 241, 242, 243, 1, 244, 245, 246, 247, 248, 249, 250, 251, 252, 253, 254, 255, 256, 257, 258, 259, 260, 261, 262, 263, 264, 265, 266, 267, 268, 269, 270, 271, 272, 273, 274, 275, 276, 277, 278, 279, 280, 281, 282, 283, 284, 285, 286, 287, 288, 289, 290, 291, 292, 293, 294, 295, 296, 297, 298, 299, 300, 301, 302, 303, 304, 305, 306, 307, 308, 309, 310, 311, 312, 313, 314, 315, 316, 317, 318, 319, 320, 321, 322, 323, 324, 325, 326, 327, 328, 329, 330, 331, 332, 333, 334, 335, 336, 337, 338, 339, 340, 341, 342, 343, 344, 345, 346, 347, 348, 349, 350, 351, 352, 353, 354, 355, 356, 357, 358, 359, 360, 361, 362, 363, 364, 365, 366, 367, 368, 369, 370, 371, 372, 373, 374, 375, 376, 377, 378, 379, 380, 381, 382, 383, 384, 385, 386, 387, 388, 389, 390, 391, 392, 393, 394, 395, 396, 397, 398, 399, 400, 401, 402, 403, 404, 405, 406, 407, 408, 409, 410, 411, 412, 413, 414, 415] (by decide +kernel) (by decide +kernel)) (goodIn_sub (fun _ h => List.mem_cons_of_mem _ (List.mem_append_right _ h)) (by decide +kernel))
set_option maxRecDepth 20000 in
theorem gX13_walk_X13_go_ : GoodIn wsX13_walk (wsV RX13 862 RX13 yX13_go_ wsX13_go_) := goodIn_app (goodIn_of _ (by decide +kernel)) ggX13_walk_X13_go_
theorem dX13_walk_0 : decode cX13_walk 0 = .ok (.aload_n 0, 1) := by decide +kernel
theorem dX13_walk_1 : decode cX13_walk 1 = .ok (.iconst 0, 1) := by decide +kernel
theorem dX13_walk_2 : decode cX13_walk 2 = .ok (.putfield 830, 3) := by decide +kernel
theorem dX13_walk_5 : decode cX13_walk 5 = .ok (.aload_n 0, 1) := by decide +kernel
theorem dX13_walk_6 : decode cX13_walk 6 = .ok (.iload_n 1, 1) := by decide +kernel
theorem dX13_walk_7 : decode cX13_walk 7 = .ok (.invokevirtual 862, 3) := by decide +kernel
theorem dX13_walk_10 : decode cX13_walk 10 = .ok (.ireturn, 1) := by decide +kernel
theorem dX13_played_0 : decode cX13_played 0 = .ok (.aload_n 0, 1) := by decide +kernel
theorem dX13_played_1 : decode cX13_played 1 = .ok (.iload_n 1, 1) := by decide +kernel
theorem dX13_played_2 : decode cX13_played 2 = .ok (.ifCond .lt 29, 3) := by decide +kernel
theorem dX13_played_5 : decode cX13_played 5 = .ok (.iload_n 1, 1) := by decide +kernel
theorem dX13_played_6 : decode cX13_played 6 = .ok (.iconst 5, 1) := by decide +kernel
theorem dX13_played_7 : decode cX13_played 7 = .ok (.aload_n 0, 1) := by decide +kernel
theorem dX13_played_8 : decode cX13_played 8 = .ok (.getfield 529, 3) := by decide +kernel
theorem dX13_played_11 : decode cX13_played 11 = .ok (.ifCond .eq 15, 3) := by decide +kernel
theorem dX13_played_14 : decode cX13_played 14 = .ok (.aload_n 0, 1) := by decide +kernel
theorem dX13_played_15 : decode cX13_played 15 = .ok (.getfield 333, 3) := by decide +kernel
theorem dX13_played_18 : decode cX13_played 18 = .ok (.aload_n 0, 1) := by decide +kernel
theorem dX13_played_19 : decode cX13_played 19 = .ok (.getfield 369, 3) := by decide +kernel
theorem dX13_played_22 : decode cX13_played 22 = .ok (.iadd, 1) := by decide +kernel
theorem dX13_played_23 : decode cX13_played 23 = .ok (.goto 4, 3) := by decide +kernel
theorem dX13_played_26 : decode cX13_played 26 = .ok (.iconst 0, 1) := by decide +kernel
theorem dX13_played_27 : decode cX13_played 27 = .ok (.iadd, 1) := by decide +kernel
theorem dX13_played_28 : decode cX13_played 28 = .ok (.if_icmp .lt 7, 3) := by decide +kernel
theorem dX13_played_31 : decode cX13_played 31 = .ok (.iconst 1, 1) := by decide +kernel
theorem dX13_played_32 : decode cX13_played 32 = .ok (.goto 4, 3) := by decide +kernel
theorem dX13_played_35 : decode cX13_played 35 = .ok (.iconst 0, 1) := by decide +kernel
theorem dX13_played_36 : decode cX13_played 36 = .ok (.putfield 1, 3) := by decide +kernel
theorem dX13_played_39 : decode cX13_played 39 = .ok (.aload_n 0, 1) := by decide +kernel
theorem dX13_played_40 : decode cX13_played 40 = .ok (.getfield 1, 3) := by decide +kernel
theorem dX13_played_43 : decode cX13_played 43 = .ok (.ifCond .gt 11, 3) := by decide +kernel
theorem dX13_played_46 : decode cX13_played 46 = .ok (.aload_n 0, 1) := by decide +kernel
theorem dX13_played_47 : decode cX13_played 47 = .ok (.getfield 220, 3) := by decide +kernel
theorem dX13_played_50 : decode cX13_played 50 = .ok (.iconst (-1), 1) := by decide +kernel
theorem dX13_played_51 : decode cX13_played 51 = .ok (.if_icmp .ne 5, 3) := by decide +kernel
theorem dX13_played_54 : decode cX13_played 54 = .ok (.lconst 0, 1) := by decide +kernel
theorem dX13_played_55 : decode cX13_played 55 = .ok (.lreturn, 1) := by decide +kernel
theorem dX13_played_56 : decode cX13_played 56 = .ok (.iload_n 1, 1) := by decide +kernel
theorem dX13_played_57 : decode cX13_played 57 = .ok (.tableswitch 64 0 4 #[35, 41, 47, 53, 59], 35) := by decide +kernel
theorem dX13_played_92 : decode cX13_played 92 = .ok (.aload_n 0, 1) := by decide +kernel
theorem dX13_played_93 : decode cX13_played 93 = .ok (.getfield 220, 3) := by decide +kernel
theorem dX13_played_96 : decode cX13_played 96 = .ok (.i2l, 1) := by decide +kernel
theorem dX13_played_97 : decode cX13_played 97 = .ok (.lreturn, 1) := by decide +kernel
theorem dX13_played_98 : decode cX13_played 98 = .ok (.aload_n 0, 1) := by decide +kernel
theorem dX13_played_99 : decode cX13_played 99 = .ok (.getfield 859, 3) := by decide +kernel
theorem dX13_played_102 : decode cX13_played 102 = .ok (.i2l, 1) := by decide +kernel
theorem dX13_played_103 : decode cX13_played 103 = .ok (.lreturn, 1) := by decide +kernel
theorem dX13_played_104 : decode cX13_played 104 = .ok (.aload_n 0, 1) := by decide +kernel
theorem dX13_played_105 : decode cX13_played 105 = .ok (.getfield 847, 3) := by decide +kernel
theorem dX13_played_108 : decode cX13_played 108 = .ok (.i2l, 1) := by decide +kernel
theorem dX13_played_109 : decode cX13_played 109 = .ok (.lreturn, 1) := by decide +kernel
theorem dX13_played_110 : decode cX13_played 110 = .ok (.aload_n 0, 1) := by decide +kernel
theorem dX13_played_111 : decode cX13_played 111 = .ok (.getfield 833, 3) := by decide +kernel
theorem dX13_played_114 : decode cX13_played 114 = .ok (.i2l, 1) := by decide +kernel
theorem dX13_played_115 : decode cX13_played 115 = .ok (.lreturn, 1) := by decide +kernel
theorem dX13_played_116 : decode cX13_played 116 = .ok (.aload_n 0, 1) := by decide +kernel
theorem dX13_played_117 : decode cX13_played 117 = .ok (.getfield 850, 3) := by decide +kernel
theorem dX13_played_120 : decode cX13_played 120 = .ok (.lreturn, 1) := by decide +kernel
theorem dX13_played_121 : decode cX13_played 121 = .ok (.aload_n 0, 1) := by decide +kernel
theorem dX13_played_122 : decode cX13_played 122 = .ok (.getfield 223, 3) := by decide +kernel
theorem dX13_played_125 : decode cX13_played 125 = .ok (.iload_n 1, 1) := by decide +kernel
theorem dX13_played_126 : decode cX13_played 126 = .ok (.iconst 5, 1) := by decide +kernel
theorem dX13_played_127 : decode cX13_played 127 = .ok (.isub, 1) := by decide +kernel
theorem dX13_played_128 : decode cX13_played 128 = .ok (.iaload, 1) := by decide +kernel
theorem dX13_played_129 : decode cX13_played 129 = .ok (.i2l, 1) := by decide +kernel
theorem dX13_played_130 : decode cX13_played 130 = .ok (.lreturn, 1) := by decide +kernel
set_option maxRecDepth 20000 in
theorem ggX13_best_X13_isWorthDone : GoodIn wsX13_best wsX13_isWorthDone := goodIn_ca (goodIn_r _ [19, 20, 21, 5, 22, 129, 130, 131, 132, 133, 134, 135, 136, 137, 138, 139, 140, 141, 142, 143, 144, 145, 146, 147, 148, 149, 150, 151, 152, 153, 154, 155, 156, 157, 158, 159, 160, 161, 162, 163, 164, 165, 166, 167, 168, 169, 170, 171, 172, 173, 174, 175, 176, 177, 178, 179, 180, 181, 182, 183, 184, 185, 186, 187, 188, 189, 190, 191, 192, 193, 194, 195, 196, 197, 198, 199, 200, 201, 202, 203, 204, 205, 206, 207, 208, 209, 210, 211, 212, 213, 214, 215, 216, 217, 218, 219, 220, 221, 222, 223, 224, 225, 226, 227, 228, 229, 230, 231, 232, 233, 234, 235, 236, 237, 238, 239, 240, 241, 242, 243, 244, 245, 246, 247, 248, 249, 250, 251, 252, 253, 254] (by decide +kernel) (by decide +kernel)) (goodIn_sub (fun _ h => List.mem_cons_of_mem _ (List.mem_append_right _ h)) (by decide +kernel))
set_option maxRecDepth 20000 in
theorem gX13_best_X13_isWorthDone : GoodIn wsX13_best (wsV RX13 873 RX13 yX13_isWorthDone wsX13_isWorthDone) := goodIn_app (goodIn_of _ (by decide +kernel)) ggX13_best_X13_isWorthDone
set_option maxRecDepth 20000 in
theorem ggX13_best_X13_findWorth : GoodIn wsX13_best wsX13_findWorth := goodIn_ca (goodIn_r _ [26, 7, 8, 20, 27, 28, 29, 30, 31, 32, 18, 33, 34, 35, 36, 37, 38, 39, 40, 41, 42, 43, 44, 45, 46, 47, 48, 49, 50, 21, 12, 22, 10, 51, 52, 53, 54, 55, 56, 57, 58, 59, 60, 61, 62, 63, 64, 65, 66, 67, 68, 69, 70, 71, 72, 73, 74, 75, 76, 77, 78, 79, 80, 81, 82, 83, 84, 85, 86, 87, 88, 89, 90, 91, 92, 93, 94, 95, 96, 97, 98, 99, 100, 101, 102, 103, 104, 105, 106, 107, 108, 109, 110, 111, 112, 113, 114, 115, 116, 117, 118, 129, 130, 131, 132, 133, 134, 135, 136, 137, 138, 139, 140, 141, 142, 143, 144, 145, 146, 147, 148, 149, 150, 151, 152, 153, 154, 155, 156, 157, 158, 159, 160, 161, 162, 163, 164, 165, 166, 167, 168, 169, 170, 171, 172, 173, 174, 175, 176, 177, 178, 179, 180, 181, 182, 183, 184, 185, 186, 187, 188, 189, 190, 191, 192, 193, 194, 195, 196, 197, 198, 199, 200, 201, 202, 203, 204, 205, 206, 207, 208, 209, 210, 211, 212, 213, 214, 215, 216, 217, 218, 219, 220, 221, 222, 223, 224, 225, 226, 227, 228, 229, 230, 231, 232, 233, 234, 235, 236, 237, 238, 239, 240, 241, 242, 243, 244, 245, 246, 247, 248, 249, 250, 251, 252, 253, 254] (by decide +kernel) (by decide +kernel)) (goodIn_sub (fun _ h => List.mem_cons_of_mem _ (List.mem_append_right _ h)) (by decide +kernel))
set_option maxRecDepth 20000 in
theorem gX13_best_X13_findWorth : GoodIn wsX13_best (wsV RX13 876 RX13 yX13_findWorth wsX13_findWorth) := goodIn_app (goodIn_of _ (by decide +kernel)) ggX13_best_X13_findWorth
set_option maxRecDepth 20000 in
theorem ggX13_best_X13_isLong : GoodIn wsX13_best wsX13_isLong := goodIn_ca (goodIn_r _ [122, 46, 129, 130, 131, 132, 133, 134, 135, 136, 137, 138, 139, 140, 141, 142, 143, 144, 145, 146, 147, 148, 149, 150, 151, 152, 153, 154, 155, 156, 157, 158, 159, 160, 161, 162, 163, 164, 165, 166, 167, 168, 169, 170, 171, 172, 173, 174, 175, 176, 177, 178, 179, 180, 181, 182, 183, 184, 185, 186, 187, 188, 189, 190, 191, 192, 193, 194, 195, 196, 197, 198, 199, 200, 201, 202, 203, 204, 205, 206, 207, 208, 209, 210, 211, 212, 213, 214, 215, 216, 217, 218, 219, 220, 221, 222, 223, 224, 225, 226, 227, 228, 229, 230, 231, 232, 233, 234, 235, 236, 237, 238, 239, 240, 241, 242, 243, 244, 245, 246, 247, 248, 249, 250, 251, 252, 253, 254] (by decide +kernel) (by decide +kernel)) (goodIn_sub (fun _ h => List.mem_cons_of_mem _ (List.mem_append_right _ h)) (by decide +kernel))
set_option maxRecDepth 20000 in
theorem gX13_best_X13_isLong : GoodIn wsX13_best (wsV RX13 781 RX13 yX13_isLong wsX13_isLong) := goodIn_app (goodIn_of _ (by decide +kernel)) ggX13_best_X13_isLong
set_option maxRecDepth 20000 in
theorem ggX13_best_X13_keepWorth : GoodIn wsX13_best wsX13_keepWorth := goodIn_ca (goodIn_r _ [126, 10, 38, 12, 46, 43, 127, 128, 129, 130, 131, 132, 133, 134, 135, 136, 137, 138, 139, 140, 141, 142, 143, 144, 145, 146, 147, 148, 149, 150, 151, 152, 153, 154, 155, 156, 157, 158, 159, 160, 161, 162, 163, 164, 165, 166, 167, 168, 169, 170, 171, 172, 173, 174, 175, 176, 177, 178, 179, 180, 181, 182, 183, 184, 185, 186, 187, 188, 189, 190, 191, 192, 193, 194, 195, 196, 197, 198, 199, 200, 201, 202, 203, 204, 205, 206, 207, 208, 209, 210, 211, 212, 213, 214, 215, 216, 217, 218, 219, 220, 221, 222, 223, 224, 225, 226, 227, 228, 229, 230, 231, 232, 233, 234, 235, 236, 237, 238, 239, 240, 241, 242, 243, 244, 245, 246, 247, 248, 249, 250, 251, 252, 253, 254] (by decide +kernel) (by decide +kernel)) (goodIn_sub (fun _ h => List.mem_cons_of_mem _ (List.mem_append_right _ h)) (by decide +kernel))
set_option maxRecDepth 20000 in
theorem gX13_best_X13_keepWorth : GoodIn wsX13_best (wsV RX13 879 RX13 yX13_keepWorth wsX13_keepWorth) := goodIn_app (goodIn_of _ (by decide +kernel)) ggX13_best_X13_keepWorth
theorem dX13_best_0 : decode cX13_best 0 = .ok (.aload_n 0, 1) := by decide +kernel
theorem dX13_best_1 : decode cX13_best 1 = .ok (.aload_n 0, 1) := by decide +kernel
theorem dX13_best_2 : decode cX13_best 2 = .ok (.getfield 533, 3) := by decide +kernel
theorem dX13_best_5 : decode cX13_best 5 = .ok (.ifCond .eq 7, 3) := by decide +kernel
theorem dX13_best_8 : decode cX13_best 8 = .ok (.iconst 0, 1) := by decide +kernel
theorem dX13_best_9 : decode cX13_best 9 = .ok (.goto 4, 3) := by decide +kernel
theorem dX13_best_12 : decode cX13_best 12 = .ok (.iconst 1, 1) := by decide +kernel
theorem dX13_best_13 : decode cX13_best 13 = .ok (.putfield 1, 3) := by decide +kernel
theorem dX13_best_16 : decode cX13_best 16 = .ok (.aload_n 0, 1) := by decide +kernel
theorem dX13_best_17 : decode cX13_best 17 = .ok (.getfield 1, 3) := by decide +kernel
theorem dX13_best_20 : decode cX13_best 20 = .ok (.ifCond .le 5, 3) := by decide +kernel
theorem dX13_best_23 : decode cX13_best 23 = .ok (.iconst 0, 1) := by decide +kernel
theorem dX13_best_24 : decode cX13_best 24 = .ok (.ireturn, 1) := by decide +kernel
theorem dX13_best_25 : decode cX13_best 25 = .ok (.aload_n 0, 1) := by decide +kernel
theorem dX13_best_26 : decode cX13_best 26 = .ok (.getfield 658, 3) := by decide +kernel
theorem dX13_best_29 : decode cX13_best 29 = .ok (.ifCond .le 6, 3) := by decide +kernel
theorem dX13_best_32 : decode cX13_best 32 = .ok (.bipush (-2), 2) := by decide +kernel
theorem dX13_best_34 : decode cX13_best 34 = .ok (.ireturn, 1) := by decide +kernel
theorem dX13_best_35 : decode cX13_best 35 = .ok (.iconst 0, 1) := by decide +kernel
theorem dX13_best_36 : decode cX13_best 36 = .ok (.istore_n 1, 1) := by decide +kernel
theorem dX13_best_37 : decode cX13_best 37 = .ok (.iconst 0, 1) := by decide +kernel
theorem dX13_best_38 : decode cX13_best 38 = .ok (.istore_n 2, 1) := by decide +kernel
theorem dX13_best_39 : decode cX13_best 39 = .ok (.iload_n 2, 1) := by decide +kernel
theorem dX13_best_40 : decode cX13_best 40 = .ok (.aload_n 0, 1) := by decide +kernel
theorem dX13_best_41 : decode cX13_best 41 = .ok (.getfield 542, 3) := by decide +kernel
theorem dX13_best_44 : decode cX13_best 44 = .ok (.if_icmp .ge 16, 3) := by decide +kernel
theorem dX13_best_47 : decode cX13_best 47 = .ok (.aload_n 0, 1) := by decide +kernel
theorem dX13_best_48 : decode cX13_best 48 = .ok (.getfield 198, 3) := by decide +kernel
theorem dX13_best_51 : decode cX13_best 51 = .ok (.iload_n 2, 1) := by decide +kernel
theorem dX13_best_52 : decode cX13_best 52 = .ok (.iconst 0, 1) := by decide +kernel
theorem dX13_best_53 : decode cX13_best 53 = .ok (.bastore, 1) := by decide +kernel
theorem dX13_best_54 : decode cX13_best 54 = .ok (.iinc 2 1, 3) := by decide +kernel
theorem dX13_best_57 : decode cX13_best 57 = .ok (.goto (-18), 3) := by decide +kernel
theorem dX13_best_60 : decode cX13_best 60 = .ok (.iload_n 1, 1) := by decide +kernel
theorem dX13_best_61 : decode cX13_best 61 = .ok (.aload_n 0, 1) := by decide +kernel
theorem dX13_best_62 : decode cX13_best 62 = .ok (.getfield 542, 3) := by decide +kernel
theorem dX13_best_65 : decode cX13_best 65 = .ok (.if_icmp .ge 79, 3) := by decide +kernel
theorem dX13_best_68 : decode cX13_best 68 = .ok (.aload_n 0, 1) := by decide +kernel
theorem dX13_best_69 : decode cX13_best 69 = .ok (.getfield 542, 3) := by decide +kernel
theorem dX13_best_72 : decode cX13_best 72 = .ok (.iconst 1, 1) := by decide +kernel
theorem dX13_best_73 : decode cX13_best 73 = .ok (.isub, 1) := by decide +kernel
theorem dX13_best_74 : decode cX13_best 74 = .ok (.istore_n 2, 1) := by decide +kernel
theorem dX13_best_75 : decode cX13_best 75 = .ok (.iload_n 2, 1) := by decide +kernel
theorem dX13_best_76 : decode cX13_best 76 = .ok (.ifCond .lt 65, 3) := by decide +kernel
theorem dX13_best_79 : decode cX13_best 79 = .ok (.aload_n 0, 1) := by decide +kernel
theorem dX13_best_80 : decode cX13_best 80 = .ok (.getfield 198, 3) := by decide +kernel
theorem dX13_best_83 : decode cX13_best 83 = .ok (.iload_n 2, 1) := by decide +kernel
theorem dX13_best_84 : decode cX13_best 84 = .ok (.baload, 1) := by decide +kernel
theorem dX13_best_85 : decode cX13_best 85 = .ok (.ifCond .ne 50, 3) := by decide +kernel
theorem dX13_best_88 : decode cX13_best 88 = .ok (.aload_n 0, 1) := by decide +kernel
theorem dX13_best_89 : decode cX13_best 89 = .ok (.iload_n 2, 1) := by decide +kernel
theorem dX13_best_90 : decode cX13_best 90 = .ok (.invokevirtual 873, 3) := by decide +kernel
theorem dX13_best_93 : decode cX13_best 93 = .ok (.ifCond .eq 42, 3) := by decide +kernel
theorem dX13_best_96 : decode cX13_best 96 = .ok (.aload_n 0, 1) := by decide +kernel
theorem dX13_best_97 : decode cX13_best 97 = .ok (.iload_n 2, 1) := by decide +kernel
theorem dX13_best_98 : decode cX13_best 98 = .ok (.invokevirtual 876, 3) := by decide +kernel
theorem dX13_best_101 : decode cX13_best 101 = .ok (.aload_n 0, 1) := by decide +kernel
theorem dX13_best_102 : decode cX13_best 102 = .ok (.iconst 4, 1) := by decide +kernel
theorem dX13_best_103 : decode cX13_best 103 = .ok (.invokevirtual 781, 3) := by decide +kernel
theorem dX13_best_106 : decode cX13_best 106 = .ok (.ifCond .ne 11, 3) := by decide +kernel
theorem dX13_best_109 : decode cX13_best 109 = .ok (.aload_n 0, 1) := by decide +kernel
theorem dX13_best_110 : decode cX13_best 110 = .ok (.iconst 5, 1) := by decide +kernel
theorem dX13_best_111 : decode cX13_best 111 = .ok (.invokevirtual 781, 3) := by decide +kernel
theorem dX13_best_114 : decode cX13_best 114 = .ok (.ifCond .eq 6, 3) := by decide +kernel
theorem dX13_best_117 : decode cX13_best 117 = .ok (.bipush (-3), 2) := by decide +kernel
theorem dX13_best_119 : decode cX13_best 119 = .ok (.ireturn, 1) := by decide +kernel
theorem dX13_best_120 : decode cX13_best 120 = .ok (.aload_n 0, 1) := by decide +kernel
theorem dX13_best_121 : decode cX13_best 121 = .ok (.iload_n 2, 1) := by decide +kernel
theorem dX13_best_122 : decode cX13_best 122 = .ok (.invokevirtual 879, 3) := by decide +kernel
theorem dX13_best_125 : decode cX13_best 125 = .ok (.aload_n 0, 1) := by decide +kernel
theorem dX13_best_126 : decode cX13_best 126 = .ok (.getfield 198, 3) := by decide +kernel
theorem dX13_best_129 : decode cX13_best 129 = .ok (.iload_n 2, 1) := by decide +kernel
theorem dX13_best_130 : decode cX13_best 130 = .ok (.iconst 1, 1) := by decide +kernel
theorem dX13_best_131 : decode cX13_best 131 = .ok (.bastore, 1) := by decide +kernel
theorem dX13_best_132 : decode cX13_best 132 = .ok (.iinc 1 1, 3) := by decide +kernel
theorem dX13_best_135 : decode cX13_best 135 = .ok (.iinc 2 (-1), 3) := by decide +kernel
theorem dX13_best_138 : decode cX13_best 138 = .ok (.goto (-63), 3) := by decide +kernel
theorem dX13_best_141 : decode cX13_best 141 = .ok (.goto (-81), 3) := by decide +kernel
theorem dX13_best_144 : decode cX13_best 144 = .ok (.iconst 0, 1) := by decide +kernel
theorem dX13_best_145 : decode cX13_best 145 = .ok (.istore_n 2, 1) := by decide +kernel
theorem dX13_best_146 : decode cX13_best 146 = .ok (.iload_n 2, 1) := by decide +kernel
theorem dX13_best_147 : decode cX13_best 147 = .ok (.aload_n 0, 1) := by decide +kernel
theorem dX13_best_148 : decode cX13_best 148 = .ok (.getfield 542, 3) := by decide +kernel
theorem dX13_best_151 : decode cX13_best 151 = .ok (.if_icmp .ge 80, 3) := by decide +kernel
theorem dX13_best_154 : decode cX13_best 154 = .ok (.aload_n 0, 1) := by decide +kernel
theorem dX13_best_155 : decode cX13_best 155 = .ok (.getfield 172, 3) := by decide +kernel
theorem dX13_best_158 : decode cX13_best 158 = .ok (.iload_n 2, 1) := by decide +kernel
theorem dX13_best_159 : decode cX13_best 159 = .ok (.aload_n 0, 1) := by decide +kernel
theorem dX13_best_160 : decode cX13_best 160 = .ok (.getfield 166, 3) := by decide +kernel
theorem dX13_best_163 : decode cX13_best 163 = .ok (.iload_n 2, 1) := by decide +kernel
theorem dX13_best_164 : decode cX13_best 164 = .ok (.baload, 1) := by decide +kernel
theorem dX13_best_165 : decode cX13_best 165 = .ok (.ifCond .eq 12, 3) := by decide +kernel
theorem dX13_best_168 : decode cX13_best 168 = .ok (.aload_n 0, 1) := by decide +kernel
theorem dX13_best_169 : decode cX13_best 169 = .ok (.getfield 238, 3) := by decide +kernel
theorem dX13_best_172 : decode cX13_best 172 = .ok (.iload_n 2, 1) := by decide +kernel
theorem dX13_best_173 : decode cX13_best 173 = .ok (.iaload, 1) := by decide +kernel
theorem dX13_best_174 : decode cX13_best 174 = .ok (.goto 4, 3) := by decide +kernel
theorem dX13_best_177 : decode cX13_best 177 = .ok (.iconst 0, 1) := by decide +kernel
theorem dX13_best_178 : decode cX13_best 178 = .ok (.iastore, 1) := by decide +kernel
theorem dX13_best_179 : decode cX13_best 179 = .ok (.aload_n 0, 1) := by decide +kernel
theorem dX13_best_180 : decode cX13_best 180 = .ok (.getfield 229, 3) := by decide +kernel
theorem dX13_best_183 : decode cX13_best 183 = .ok (.iload_n 2, 1) := by decide +kernel
theorem dX13_best_184 : decode cX13_best 184 = .ok (.aload_n 0, 1) := by decide +kernel
theorem dX13_best_185 : decode cX13_best 185 = .ok (.getfield 235, 3) := by decide +kernel
theorem dX13_best_188 : decode cX13_best 188 = .ok (.iload_n 2, 1) := by decide +kernel
theorem dX13_best_189 : decode cX13_best 189 = .ok (.iaload, 1) := by decide +kernel
theorem dX13_best_190 : decode cX13_best 190 = .ok (.iastore, 1) := by decide +kernel
theorem dX13_best_191 : decode cX13_best 191 = .ok (.bipush 34, 2) := by decide +kernel
theorem dX13_best_193 : decode cX13_best 193 = .ok (.iload_n 2, 1) := by decide +kernel
theorem dX13_best_194 : decode cX13_best 194 = .ok (.imul, 1) := by decide +kernel
theorem dX13_best_195 : decode cX13_best 195 = .ok (.istore_n 3, 1) := by decide +kernel
theorem dX13_best_196 : decode cX13_best 196 = .ok (.iload_n 3, 1) := by decide +kernel
theorem dX13_best_197 : decode cX13_best 197 = .ok (.bipush 34, 2) := by decide +kernel
theorem dX13_best_199 : decode cX13_best 199 = .ok (.iload_n 2, 1) := by decide +kernel
theorem dX13_best_200 : decode cX13_best 200 = .ok (.imul, 1) := by decide +kernel
theorem dX13_best_201 : decode cX13_best 201 = .ok (.bipush 34, 2) := by decide +kernel
theorem dX13_best_203 : decode cX13_best 203 = .ok (.iadd, 1) := by decide +kernel
theorem dX13_best_204 : decode cX13_best 204 = .ok (.if_icmp .ge 21, 3) := by decide +kernel
theorem dX13_best_207 : decode cX13_best 207 = .ok (.aload_n 0, 1) := by decide +kernel
theorem dX13_best_208 : decode cX13_best 208 = .ok (.getfield 226, 3) := by decide +kernel
theorem dX13_best_211 : decode cX13_best 211 = .ok (.iload_n 3, 1) := by decide +kernel
theorem dX13_best_212 : decode cX13_best 212 = .ok (.aload_n 0, 1) := by decide +kernel
theorem dX13_best_213 : decode cX13_best 213 = .ok (.getfield 232, 3) := by decide +kernel
theorem dX13_best_216 : decode cX13_best 216 = .ok (.iload_n 3, 1) := by decide +kernel
theorem dX13_best_217 : decode cX13_best 217 = .ok (.iaload, 1) := by decide +kernel
theorem dX13_best_218 : decode cX13_best 218 = .ok (.iastore, 1) := by decide +kernel
theorem dX13_best_219 : decode cX13_best 219 = .ok (.iinc 3 1, 3) := by decide +kernel
theorem dX13_best_222 : decode cX13_best 222 = .ok (.goto (-26), 3) := by decide +kernel
theorem dX13_best_225 : decode cX13_best 225 = .ok (.iinc 2 1, 3) := by decide +kernel
theorem dX13_best_228 : decode cX13_best 228 = .ok (.goto (-82), 3) := by decide +kernel
theorem dX13_best_231 : decode cX13_best 231 = .ok (.aload_n 0, 1) := by decide +kernel
theorem dX13_best_232 : decode cX13_best 232 = .ok (.iconst 1, 1) := by decide +kernel
theorem dX13_best_233 : decode cX13_best 233 = .ok (.putfield 539, 3) := by decide +kernel
theorem dX13_best_236 : decode cX13_best 236 = .ok (.aload_n 0, 1) := by decide +kernel
theorem dX13_best_237 : decode cX13_best 237 = .ok (.iconst 0, 1) := by decide +kernel
theorem dX13_best_238 : decode cX13_best 238 = .ok (.putfield 536, 3) := by decide +kernel
theorem dX13_best_241 : decode cX13_best 241 = .ok (.iconst 0, 1) := by decide +kernel
theorem dX13_best_242 : decode cX13_best 242 = .ok (.ireturn, 1) := by decide +kernel
set_option maxRecDepth 20000 in
theorem ggX13_independent_X13_isGlobal : GoodIn wsX13_independent wsX13_isGlobal := goodIn_r _ [7, 8, 9, 10, 11, 6, 12, 155, 156, 157, 158, 159, 160, 161, 162, 163, 164, 165, 166, 167, 168, 169, 170, 171, 172, 173, 174, 175, 176, 177, 178, 179, 180, 181, 182, 183, 184, 185, 186, 187, 188, 189, 190, 191, 192, 193, 194, 195, 196, 197, 198, 199, 200, 201, 202, 203, 204, 205, 206, 207, 208, 209, 210, 211, 212, 213, 214, 215, 216, 217, 218, 219, 220, 221, 222, 223, 224, 225, 226, 227, 228, 229, 230, 231, 232, 233, 234, 235, 236, 237, 238, 239, 240, 241, 242, 243, 244, 245, 246, 247, 248, 249, 250, 251, 252, 253, 254, 255, 256, 257, 258, 259, 260, 261, 262, 263, 264, 265, 266, 267, 268, 269, 270, 271, 272, 273, 274, 275, 276, 277, 278, 279, 280] (by decide +kernel) (by decide +kernel)
set_option maxRecDepth 20000 in
theorem gX13_independent_X13_isGlobal : GoodIn wsX13_independent (wsV RX13 906 RX13 yX13_isGlobal wsX13_isGlobal) := goodIn_app (goodIn_of _ (by decide +kernel)) ggX13_independent_X13_isGlobal
set_option maxRecDepth 20000 in
theorem ggX13_independent_X13_findHeavy : GoodIn wsX13_independent wsX13_findHeavy := goodIn_ca (goodIn_r _ [16, 17, 18, 19, 20, 21, 22, 23, 24, 25, 6, 26, 27, 28, 29, 30, 31, 32, 33, 34, 155, 156, 157, 158, 159, 160, 161, 162, 163, 164, 165, 166, 167, 168, 169, 170, 171, 172, 173, 174, 175, 176, 177, 178, 179, 180, 181, 182, 183, 184, 185, 186, 187, 188, 189, 190, 191, 192, 193, 194, 195, 196, 197, 198, 199, 200, 201, 202, 203, 204, 205, 206, 207, 208, 209, 210, 211, 212, 213, 214, 215, 216, 217, 218, 219, 220, 221, 222, 223, 224, 225, 226, 227, 228, 229, 230, 231, 232, 233, 234, 235, 236, 237, 238, 239, 240, 241, 242, 243, 244, 245, 246, 247, 248, 249, 250, 251, 252, 253, 254, 255, 256, 257, 258, 259, 260, 261, 262, 263, 264, 265, 266, 267, 268, 269, 270, 271, 272, 273, 274, 275, 276, 277, 278, 279, 280] (by decide +kernel) (by decide +kernel)) (goodIn_sub (fun _ h => List.mem_cons_of_mem _ (List.mem_append_right _ h)) (by decide +kernel))
set_option maxRecDepth 20000 in
theorem gX13_independent_X13_findHeavy : GoodIn wsX13_independent (wsV RX13 909 RX13 yX13_findHeavy wsX13_findHeavy) := goodIn_app (goodIn_of _ (by decide +kernel)) ggX13_independent_X13_findHeavy
set_option maxRecDepth 20000 in
theorem ggX13_independent_X13_isFree : GoodIn wsX13_independent wsX13_isFree := goodIn_ca (goodIn_r _ [38, 39, 40, 41, 42, 17, 18, 19, 43, 44, 45, 6, 46, 47, 48, 49, 50, 51, 52, 53, 54, 55, 56, 57, 58, 59, 20, 22, 21, 60, 61, 62, 63, 64, 65, 66, 67, 68, 69, 70, 71, 72, 23, 24, 25, 26, 27, 28, 29, 30, 31, 32, 33, 34, 73, 74, 75, 76, 77, 78, 79, 80, 81, 82, 83, 84, 85, 86, 87, 88, 89, 90, 91, 92, 93, 94, 95, 96, 97, 98, 99, 100, 101, 102, 103, 104, 105, 106, 107, 108, 109, 110, 111, 112, 113, 114, 115, 116, 117, 118, 119, 120, 121, 122, 123, 124, 125, 126, 127, 128, 129, 130, 131, 132, 133, 134, 135, 136, 137, 138, 139, 140, 141, 142, 143, 144, 145, 146, 147, 148, 149, 150, 151, 152, 153, 154, 155, 156, 157, 158, 159, 160, 161, 162, 163, 164, 165, 166, 167, 168, 169, 170, 171, 172, 173, 174, 175, 176, 177, 178, 179, 180, 181, 182, 183, 184, 185, 186, 187, 188, 189, 190, 191, 192, 193, 194, 195, 196, 197, 198, 199, 200, 201, 202, 203, 204, 205, 206, 207, 208, 209, 210, 211, 212, 213, 214, 215, 216, 217, 218, 219, 220, 221, 222, 223, 224, 225, 226, 227, 228, 229, 230, 231, 232, 233, 234, 235, 236, 237, 238, 239, 240, 241, 242, 243, 244, 245, 246, 247, 248, 249, 250, 251, 252, 253, 254, 255, 256, 257, 258, 259, 260, 261, 262, 263, 264, 265, 266, 267, 268, 269, 270, 271, 272, 273, 274, 275, 276, 277, 278, 279, 280] (by decide +kernel) (by decide +kernel)) (goodIn_sub (fun _ h => List.mem_cons_of_mem _ (List.mem_append_right _ h)) (by decide +kernel))
set_option maxRecDepth 20000 in
theorem gX13_independent_X13_isFree : GoodIn wsX13_independent (wsV RX13 912 RX13 yX13_isFree wsX13_isFree) := goodIn_app (goodIn_of _ (by decide +kernel)) ggX13_independent_X13_isFree
theorem dX13_independent_0 : decode cX13_independent 0 = .ok (.aload_n 0, 1) := by decide +kernel
theorem dX13_independent_1 : decode cX13_independent 1 = .ok (.aload_n 0, 1) := by decide +kernel
theorem dX13_independent_2 : decode cX13_independent 2 = .ok (.getfield 536, 3) := by decide +kernel
theorem dX13_independent_5 : decode cX13_independent 5 = .ok (.ifCond .ne 7, 3) := by decide +kernel
theorem dX13_independent_8 : decode cX13_independent 8 = .ok (.iconst 1, 1) := by decide +kernel
theorem dX13_independent_9 : decode cX13_independent 9 = .ok (.goto 24, 3) := by decide +kernel
theorem dX13_independent_12 : decode cX13_independent 12 = .ok (.aload_n 0, 1) := by decide +kernel
theorem dX13_independent_13 : decode cX13_independent 13 = .ok (.iload_n 1, 1) := by decide +kernel
theorem dX13_independent_14 : decode cX13_independent 14 = .ok (.invokevirtual 906, 3) := by decide +kernel
theorem dX13_independent_17 : decode cX13_independent 17 = .ok (.ifCond .eq 11, 3) := by decide +kernel
theorem dX13_independent_20 : decode cX13_independent 20 = .ok (.aload_n 0, 1) := by decide +kernel
theorem dX13_independent_21 : decode cX13_independent 21 = .ok (.iload_n 2, 1) := by decide +kernel
theorem dX13_independent_22 : decode cX13_independent 22 = .ok (.invokevirtual 906, 3) := by decide +kernel
theorem dX13_independent_25 : decode cX13_independent 25 = .ok (.ifCond .ne 7, 3) := by decide +kernel
theorem dX13_independent_28 : decode cX13_independent 28 = .ok (.iconst 2, 1) := by decide +kernel
theorem dX13_independent_29 : decode cX13_independent 29 = .ok (.goto 4, 3) := by decide +kernel
theorem dX13_independent_32 : decode cX13_independent 32 = .ok (.iconst 0, 1) := by decide +kernel
theorem dX13_independent_33 : decode cX13_independent 33 = .ok (.putfield 1, 3) := by decide +kernel
theorem dX13_independent_36 : decode cX13_independent 36 = .ok (.aload_n 0, 1) := by decide +kernel
theorem dX13_independent_37 : decode cX13_independent 37 = .ok (.getfield 1, 3) := by decide +kernel
theorem dX13_independent_40 : decode cX13_independent 40 = .ok (.ifCond .le 5, 3) := by decide +kernel
theorem dX13_independent_43 : decode cX13_independent 43 = .ok (.iconst 0, 1) := by decide +kernel
theorem dX13_independent_44 : decode cX13_independent 44 = .ok (.ireturn, 1) := by decide +kernel
theorem dX13_independent_45 : decode cX13_independent 45 = .ok (.aload_n 0, 1) := by decide +kernel
theorem dX13_independent_46 : decode cX13_independent 46 = .ok (.invokevirtual 909, 3) := by decide +kernel
theorem dX13_independent_49 : decode cX13_independent 49 = .ok (.aload_n 0, 1) := by decide +kernel
theorem dX13_independent_50 : decode cX13_independent 50 = .ok (.iload_n 1, 1) := by decide +kernel
theorem dX13_independent_51 : decode cX13_independent 51 = .ok (.iload_n 2, 1) := by decide +kernel
theorem dX13_independent_52 : decode cX13_independent 52 = .ok (.iconst (-1), 1) := by decide +kernel
theorem dX13_independent_53 : decode cX13_independent 53 = .ok (.iconst 0, 1) := by decide +kernel
theorem dX13_independent_54 : decode cX13_independent 54 = .ok (.invokevirtual 912, 3) := by decide +kernel
theorem dX13_independent_57 : decode cX13_independent 57 = .ok (.ireturn, 1) := by decide +kernel
set_option maxRecDepth 20000 in
theorem ggX13_given_X13_isGlobal : GoodIn wsX13_given wsX13_isGlobal := goodIn_r _ [8, 9, 10, 11, 12, 7, 13, 156, 157, 158, 159, 160, 161, 162, 163, 164, 165, 166, 167, 168, 169, 170, 171, 172, 173, 174, 175, 176, 177, 178, 179, 180, 181, 182, 183, 184, 185, 186, 187, 188, 189, 190, 191, 192, 193, 194, 195, 196, 197, 198, 199, 200, 201, 202, 203, 204, 205, 206, 207, 208, 209, 210, 211, 212, 213, 214, 215, 216, 217, 218, 219, 220, 221, 222, 223, 224, 225, 226, 227, 228, 229, 230, 231, 232, 233, 234, 235, 236, 237, 238, 239, 240, 241, 242, 243, 244, 245, 246, 247, 248, 249, 250, 251, 252, 253, 254, 255, 256, 257, 258, 259, 260, 261, 262, 263, 264, 265, 266, 267, 268, 269, 270, 271, 272, 273, 274, 275, 276, 277, 278, 279, 280, 281] (by decide +kernel) (by decide +kernel)
set_option maxRecDepth 20000 in
theorem gX13_given_X13_isGlobal : GoodIn wsX13_given (wsV RX13 906 RX13 yX13_isGlobal wsX13_isGlobal) := goodIn_app (goodIn_of _ (by decide +kernel)) ggX13_given_X13_isGlobal
set_option maxRecDepth 20000 in
theorem ggX13_given_X13_findHeavy : GoodIn wsX13_given wsX13_findHeavy := goodIn_ca (goodIn_r _ [17, 18, 19, 20, 21, 22, 23, 24, 25, 26, 7, 27, 28, 29, 30, 31, 32, 33, 34, 35, 156, 157, 158, 159, 160, 161, 162, 163, 164, 165, 166, 167, 168, 169, 170, 171, 172, 173, 174, 175, 176, 177, 178, 179, 180, 181, 182, 183, 184, 185, 186, 187, 188, 189, 190, 191, 192, 193, 194, 195, 196, 197, 198, 199, 200, 201, 202, 203, 204, 205, 206, 207, 208, 209, 210, 211, 212, 213, 214, 215, 216, 217, 218, 219, 220, 221, 222, 223, 224, 225, 226, 227, 228, 229, 230, 231, 232, 233, 234, 235, 236, 237, 238, 239, 240, 241, 242, 243, 244, 245, 246, 247, 248, 249, 250, 251, 252, 253, 254, 255, 256, 257, 258, 259, 260, 261, 262, 263, 264, 265, 266, 267, 268, 269, 270, 271, 272, 273, 274, 275, 276, 277, 278, 279, 280, 281] (by decide +kernel) (by decide +kernel)) (goodIn_sub (fun _ h => List.mem_cons_of_mem _ (List.mem_append_right _ h)) (by decide +kernel))
set_option maxRecDepth 20000 in
theorem gX13_given_X13_findHeavy : GoodIn wsX13_given (wsV RX13 909 RX13 yX13_findHeavy wsX13_findHeavy) := goodIn_app (goodIn_of _ (by decide +kernel)) ggX13_given_X13_findHeavy
set_option maxRecDepth 20000 in
theorem ggX13_given_X13_list : GoodIn wsX13_given wsX13_list := goodIn_ca (goodIn_r _ [39, 18, 19, 40, 41, 42, 7, 43, 44, 156, 157, 158, 159, 160, 161, 162, 163, 164, 165, 166, 167, 168, 169, 170, 171, 172, 173, 174, 175, 176, 177, 178, 179, 180, 181, 182, 183, 184, 185, 186, 187, 188, 189, 190, 191, 192, 193, 194, 195, 196, 197, 198, 199, 200, 201, 202, 203, 204, 205, 206, 207, 208, 209, 210, 211, 212, 213, 214, 215, 216, 217, 218, 219, 220, 221, 222, 223, 224, 225, 226, 227, 228, 229, 230, 231, 232, 233, 234, 235, 236, 237, 238, 239, 240, 241, 242, 243, 244, 245, 246, 247, 248, 249, 250, 251, 252, 253, 254, 255, 256, 257, 258, 259, 260, 261, 262, 263, 264, 265, 266, 267, 268, 269, 270, 271, 272, 273, 274, 275, 276, 277, 278, 279, 280, 281] (by decide +kernel) (by decide +kernel)) (goodIn_sub (fun _ h => List.mem_cons_of_mem _ (List.mem_append_right _ h)) (by decide +kernel))
set_option maxRecDepth 20000 in
theorem gX13_given_X13_list : GoodIn wsX13_given (wsV RX13 892 RX13 yX13_list wsX13_list) := goodIn_app (goodIn_of _ (by decide +kernel)) ggX13_given_X13_list
set_option maxRecDepth 20000 in
theorem ggX13_given_X13_isFree : GoodIn wsX13_given wsX13_isFree := goodIn_ca (goodIn_r _ [48, 49, 50, 51, 52, 18, 19, 20, 36, 37, 38, 7, 39, 40, 41, 42, 43, 44, 53, 54, 55, 56, 57, 58, 59, 60, 21, 23, 22, 61, 62, 63, 64, 65, 66, 67, 68, 69, 70, 71, 72, 73, 24, 25, 26, 27, 28, 29, 30, 31, 32, 33, 34, 35, 74, 75, 76, 77, 78, 79, 80, 81, 82, 83, 84, 85, 86, 87, 88, 89, 90, 91, 92, 93, 94, 95, 96, 97, 98, 99, 100, 101, 102, 103, 104, 105, 106, 107, 108, 109, 110, 111, 112, 113, 114, 115, 116, 117, 118, 119, 120, 121, 122, 123, 124, 125, 126, 127, 128, 129, 130, 131, 132, 133, 134, 135, 136, 137, 138, 139, 140, 141, 142, 143, 144, 145, 146, 147, 148, 149, 150, 151, 152, 153, 154, 155, 156, 157, 158, 159, 160, 161, 162, 163, 164, 165, 166, 167, 168, 169, 170, 171, 172, 173, 174, 175, 176, 177, 178, 179, 180, 181, 182, 183, 184, 185, 186, 187, 188, 189, 190, 191, 192, 193, 194, 195, 196, 197, 198, 199, 200, 201, 202, 203, 204, 205, 206, 207, 208, 209, 210, 211, 212, 213, 214, 215, 216, 217, 218, 219, 220, 221, 222, 223, 224, 225, 226, 227, 228, 229, 230, 231, 232, 233, 234, 235, 236, 237, 238, 239, 240, 241, 242, 243, 244, 245, 246, 247, 248, 249, 250, 251, 252, 253, 254, 255, 256, 257, 258, 259, 260, 261, 262, 263, 264, 265, 266, 267, 268, 269, 270, 271, 272, 273, 274, 275, 276, 277, 278, 279, 280, 281] (by decide +kernel) (by decide +kernel)) (goodIn_sub (fun _ h => List.mem_cons_of_mem _ (List.mem_append_right _ h)) (by decide +kernel))
set_option maxRecDepth 20000 in
theorem gX13_given_X13_isFree : GoodIn wsX13_given (wsV RX13 912 RX13 yX13_isFree wsX13_isFree) := goodIn_app (goodIn_of _ (by decide +kernel)) ggX13_given_X13_isFree
theorem dX13_given_0 : decode cX13_given 0 = .ok (.aload_n 0, 1) := by decide +kernel
theorem dX13_given_1 : decode cX13_given 1 = .ok (.aload_n 0, 1) := by decide +kernel
theorem dX13_given_2 : decode cX13_given 2 = .ok (.getfield 536, 3) := by decide +kernel
theorem dX13_given_5 : decode cX13_given 5 = .ok (.ifCond .ne 7, 3) := by decide +kernel
theorem dX13_given_8 : decode cX13_given 8 = .ok (.iconst 1, 1) := by decide +kernel
theorem dX13_given_9 : decode cX13_given 9 = .ok (.goto 32, 3) := by decide +kernel
theorem dX13_given_12 : decode cX13_given 12 = .ok (.aload_n 0, 1) := by decide +kernel
theorem dX13_given_13 : decode cX13_given 13 = .ok (.iload_n 1, 1) := by decide +kernel
theorem dX13_given_14 : decode cX13_given 14 = .ok (.invokevirtual 906, 3) := by decide +kernel
theorem dX13_given_17 : decode cX13_given 17 = .ok (.ifCond .eq 19, 3) := by decide +kernel
theorem dX13_given_20 : decode cX13_given 20 = .ok (.aload_n 0, 1) := by decide +kernel
theorem dX13_given_21 : decode cX13_given 21 = .ok (.iload_n 2, 1) := by decide +kernel
theorem dX13_given_22 : decode cX13_given 22 = .ok (.invokevirtual 906, 3) := by decide +kernel
theorem dX13_given_25 : decode cX13_given 25 = .ok (.ifCond .eq 11, 3) := by decide +kernel
theorem dX13_given_28 : decode cX13_given 28 = .ok (.aload_n 0, 1) := by decide +kernel
theorem dX13_given_29 : decode cX13_given 29 = .ok (.iload_n 3, 1) := by decide +kernel
theorem dX13_given_30 : decode cX13_given 30 = .ok (.invokevirtual 906, 3) := by decide +kernel
theorem dX13_given_33 : decode cX13_given 33 = .ok (.ifCond .ne 7, 3) := by decide +kernel
theorem dX13_given_36 : decode cX13_given 36 = .ok (.iconst 2, 1) := by decide +kernel
theorem dX13_given_37 : decode cX13_given 37 = .ok (.goto 4, 3) := by decide +kernel
theorem dX13_given_40 : decode cX13_given 40 = .ok (.iconst 0, 1) := by decide +kernel
theorem dX13_given_41 : decode cX13_given 41 = .ok (.putfield 1, 3) := by decide +kernel
theorem dX13_given_44 : decode cX13_given 44 = .ok (.aload_n 0, 1) := by decide +kernel
theorem dX13_given_45 : decode cX13_given 45 = .ok (.getfield 1, 3) := by decide +kernel
theorem dX13_given_48 : decode cX13_given 48 = .ok (.ifCond .le 5, 3) := by decide +kernel
theorem dX13_given_51 : decode cX13_given 51 = .ok (.iconst 0, 1) := by decide +kernel
theorem dX13_given_52 : decode cX13_given 52 = .ok (.ireturn, 1) := by decide +kernel
theorem dX13_given_53 : decode cX13_given 53 = .ok (.aload_n 0, 1) := by decide +kernel
theorem dX13_given_54 : decode cX13_given 54 = .ok (.invokevirtual 909, 3) := by decide +kernel
theorem dX13_given_57 : decode cX13_given 57 = .ok (.aload_n 0, 1) := by decide +kernel
theorem dX13_given_58 : decode cX13_given 58 = .ok (.aload_n 0, 1) := by decide +kernel
theorem dX13_given_59 : decode cX13_given 59 = .ok (.getfield 250, 3) := by decide +kernel
theorem dX13_given_62 : decode cX13_given 62 = .ok (.iload_n 3, 1) := by decide +kernel
theorem dX13_given_63 : decode cX13_given 63 = .ok (.iconst (-1), 1) := by decide +kernel
theorem dX13_given_64 : decode cX13_given 64 = .ok (.iconst 0, 1) := by decide +kernel
theorem dX13_given_65 : decode cX13_given 65 = .ok (.invokevirtual 892, 3) := by decide +kernel
theorem dX13_given_68 : decode cX13_given 68 = .ok (.istore 4, 2) := by decide +kernel
theorem dX13_given_70 : decode cX13_given 70 = .ok (.iconst 1, 1) := by decide +kernel
theorem dX13_given_71 : decode cX13_given 71 = .ok (.istore 5, 2) := by decide +kernel
theorem dX13_given_73 : decode cX13_given 73 = .ok (.iconst 0, 1) := by decide +kernel
theorem dX13_given_74 : decode cX13_given 74 = .ok (.istore 6, 2) := by decide +kernel
theorem dX13_given_76 : decode cX13_given 76 = .ok (.iload 6, 2) := by decide +kernel
theorem dX13_given_78 : decode cX13_given 78 = .ok (.iload 4, 2) := by decide +kernel
theorem dX13_given_80 : decode cX13_given 80 = .ok (.if_icmp .ge 30, 3) := by decide +kernel
theorem dX13_given_83 : decode cX13_given 83 = .ok (.iload 5, 2) := by decide +kernel
theorem dX13_given_85 : decode cX13_given 85 = .ok (.ifCond .eq 25, 3) := by decide +kernel
theorem dX13_given_88 : decode cX13_given 88 = .ok (.aload_n 0, 1) := by decide +kernel
theorem dX13_given_89 : decode cX13_given 89 = .ok (.iload_n 1, 1) := by decide +kernel
theorem dX13_given_90 : decode cX13_given 90 = .ok (.iload_n 2, 1) := by decide +kernel
theorem dX13_given_91 : decode cX13_given 91 = .ok (.iload_n 3, 1) := by decide +kernel
theorem dX13_given_92 : decode cX13_given 92 = .ok (.aload_n 0, 1) := by decide +kernel
theorem dX13_given_93 : decode cX13_given 93 = .ok (.getfield 250, 3) := by decide +kernel
theorem dX13_given_96 : decode cX13_given 96 = .ok (.iload 6, 2) := by decide +kernel
theorem dX13_given_98 : decode cX13_given 98 = .ok (.iaload, 1) := by decide +kernel
theorem dX13_given_99 : decode cX13_given 99 = .ok (.invokevirtual 912, 3) := by decide +kernel
theorem dX13_given_102 : decode cX13_given 102 = .ok (.istore 5, 2) := by decide +kernel
theorem dX13_given_104 : decode cX13_given 104 = .ok (.iinc 6 1, 3) := by decide +kernel
theorem dX13_given_107 : decode cX13_given 107 = .ok (.goto (-31), 3) := by decide +kernel
theorem dX13_given_110 : decode cX13_given 110 = .ok (.iload 5, 2) := by decide +kernel
theorem dX13_given_112 : decode cX13_given 112 = .ok (.ireturn, 1) := by decide +kernel
