def LAY : List LC := [Sum.inl (9, [some (some 1), some (some 21), some (some 41), some (some 43), some (some 51), some (some 53), none, none, none]), Sum.inl (6, [some (some 2), some (some 4), some (some 9), some (some 11), some (some 16), some (some 20), none]), Sum.inl (3, [some (some 3), none, none, none, none, none]), Sum.inr (0, 90), Sum.inl (5, [some (some 5), some (some 6), some (some 7), some (some 8), none]), Sum.inr (0, 200), Sum.inr (0, 200), Sum.inr (0, 200), Sum.inr (0, 1464), Sum.inl (2, [some (some 10), none]), Sum.inr (0, 108), Sum.inl (7, [some (some 12), some (some 13), some (some 14), some (some 15), none]), Sum.inr (0, 12), Sum.inr (0, 12), Sum.inr (0, 12), Sum.inr (0, 12), Sum.inl (8, [some (some 17), some (some 18), some (some 19), none]), Sum.inr (0, 8), Sum.inr (0, 8), Sum.inr (0, 8), Sum.inr (0, 360), Sum.inl (6, [some (some 22), some (some 24), some (some 29), some (some 31), some (some 36), some (some 40), none]), Sum.inl (3, [some (some 23), none, none, none, none, none]), Sum.inr (0, 90), Sum.inl (5, [some (some 25), some (some 26), some (some 27), some (some 28), none]), Sum.inr (0, 200), Sum.inr (0, 200), Sum.inr (0, 200), Sum.inr (0, 1464), Sum.inl (2, [some (some 30), none]), Sum.inr (0, 108), Sum.inl (7, [some (some 32), some (some 33), some (some 34), some (some 35), none]), Sum.inr (0, 12), Sum.inr (0, 12), Sum.inr (0, 12), Sum.inr (0, 12), Sum.inl (8, [some (some 37), some (some 38), some (some 39), none]), Sum.inr (0, 8), Sum.inr (0, 8), Sum.inr (0, 8), Sum.inr (0, 360), Sum.inl (3, [some (some 42), none, none, none, none, none]), Sum.inr (0, 90), Sum.inl (1, [some (some 44), some (some 45), some (some 46), some (some 47), some (some 48), some (some 49), some (some 50)]), Sum.inr (0, 12), Sum.inr (0, 30), Sum.inr (0, 30), Sum.inr (0, 30), Sum.inr (1, 30), Sum.inr (1, 7), Sum.inr (0, 7), Sum.inl (0, [some (some 52), none, none, none, none, none]), Sum.inr (0, 50), Sum.inl (4, [some (some 54), some (some 55), some (some 56)]), Sum.inr (0, 4), Sum.inr (0, 4), Sum.inr (0, 160), Sum.inl (10, [none, none, some (some 58), some (some 59), some (some 60), some (some 61), some (some 62), some (some 63), some (some 64), some (some 65), none, none, none, none, none, none, some (some 66), some (some 67), some (some 68), some (some 69), some (some 70), none, some (some 71), some (some 72), some (some 73), some (some 74), some (some 75), some (some 76), some (some 77), some (some 78), some (some 79), none, some (some 80), some (some 81), some (some 82), some (some 83), none, some (some 84), some (some 85), some (some 86), some (some 87), some (some 88), some (some 89), some (some 90), some (some 91), some (some 92), some (some 93), some (some 94), some (some 95), some (some 96), some (some 97), some (some 98), some (some 99), none, none, some (some 100), some (some 101), some (some 102), some (some 103), none, some (some 104), some (some 105), some (some 106)]), Sum.inr (0, 6), Sum.inr (0, 6), Sum.inr (0, 18), Sum.inr (0, 18), Sum.inr (0, 6), Sum.inr (0, 18), Sum.inr (0, 18), Sum.inr (0, 360), Sum.inr (0, 200), Sum.inr (0, 200), Sum.inr (0, 200), Sum.inr (0, 200), Sum.inr (0, 200), Sum.inr (0, 12), Sum.inr (0, 12), Sum.inr (0, 12), Sum.inr (0, 12), Sum.inr (0, 12), Sum.inr (2, 12), Sum.inr (0, 12), Sum.inr (0, 12), Sum.inr (0, 12), Sum.inr (0, 12), Sum.inr (0, 12), Sum.inr (0, 12), Sum.inr (0, 12), Sum.inr (0, 8), Sum.inr (0, 8), Sum.inr (0, 8), Sum.inr (0, 12), Sum.inr (0, 12), Sum.inr (0, 6), Sum.inr (0, 6), Sum.inr (0, 6), Sum.inr (0, 12), Sum.inr (0, 12), Sum.inr (0, 36), Sum.inr (0, 36), Sum.inr (0, 12), Sum.inr (0, 36), Sum.inr (0, 36), Sum.inr (0, 6), Sum.inr (0, 7), Sum.inr (0, 12), Sum.inr (0, 360), Sum.inr (0, 50), Sum.inr (0, 4), Sum.inr (0, 4), Sum.inr (0, 160)]
def FC_init : MI := (⟨"FamineCode", "<init>", "()V"⟩, prog_1_method_1_code, 1, none)
def St_init : MI := (⟨"FamineCode$State", "<init>", "()V"⟩, prog_8_method_1_code, 1, none)
def La_init : MI := (⟨"FamineCode$Land", "<init>", "()V"⟩, prog_5_method_1_code, 1, none)
def Si_init : MI := (⟨"FamineCode$Signs", "<init>", "()V"⟩, prog_7_method_1_code, 1, none)
def Co_init : MI := (⟨"FamineCode$Code", "<init>", "()V"⟩, prog_4_method_1_code, 1, none)
def Wa_init : MI := (⟨"FamineCode$Ways", "<init>", "()V"⟩, prog_9_method_1_code, 1, none)
def Wo_init : MI := (⟨"FamineCode$Works", "<init>", "()V"⟩, prog_10_method_1_code, 1, none)
def Ca_init : MI := (⟨"FamineCode$Carts", "<init>", "()V"⟩, prog_3_method_1_code, 1, none)
def Ac_init : MI := (⟨"FamineCode$Acts", "<init>", "()V"⟩, prog_2_method_1_code, 1, none)
def Sh_init : MI := (⟨"FamineCode$Sheets", "<init>", "()V"⟩, prog_6_method_1_code, 1, none)
def JA_fillI : MI := (⟨"java/util/Arrays", "fill", "([II)V"⟩, prog_16_method_103_code, 4, none)
def FC_district : MI := (⟨"FamineCode", "district", "(II)I"⟩, prog_1_method_2_code, 3, some .int)
def FC_within : MI := (⟨"FamineCode", "within", "(III)Z"⟩, prog_1_method_52_code, 3, some .boolean)
def FC_refuse : MI := (⟨"FamineCode", "refuse", "(I)I"⟩, prog_1_method_40_code, 2, some .int)
def La_add : MI := (⟨"FamineCode$Land", "add", "(II)I"⟩, prog_5_method_3_code, 5, some .int)
def La_put : MI := (⟨"FamineCode$Land", "put", "(III)I"⟩, prog_5_method_5_code, 5, some .int)
def La_get : MI := (⟨"FamineCode$Land", "get", "(II)I"⟩, prog_5_method_4_code, 3, some .int)
def FC_done : MI := (⟨"FamineCode", "done", "(I)I"⟩, prog_1_method_39_code, 2, some .int)
def FC_people : MI := (⟨"FamineCode", "people", "(III)I"⟩, prog_1_method_3_code, 4, some .int)
def FC_isDistrict : MI := (⟨"FamineCode", "isDistrict", "(I)Z"⟩, prog_1_method_41_code, 2, some .boolean)
def FC_isClass : MI := (⟨"FamineCode", "isClass", "(I)Z"⟩, prog_1_method_44_code, 1, some .boolean)
def FC_coins : MI := (⟨"FamineCode", "coins", "(III)I"⟩, prog_1_method_4_code, 4, some .int)
def FC_price : MI := (⟨"FamineCode", "price", "(II)I"⟩, prog_1_method_5_code, 3, some .int)
def FC_wage : MI := (⟨"FamineCode", "wage", "(I)I"⟩, prog_1_method_6_code, 3, some .int)
def FC_sign : MI := (⟨"FamineCode", "sign", "(IIII)I"⟩, prog_1_method_7_code, 6, some .int)
def FC_isSort : MI := (⟨"FamineCode", "isSort", "(I)Z"⟩, prog_1_method_45_code, 1, some .boolean)
def Si_place : MI := (⟨"FamineCode$Signs", "place", "(III)I"⟩, prog_7_method_3_code, 3, some .int)
def Si_add : MI := (⟨"FamineCode$Signs", "add", "(III)I"⟩, prog_7_method_4_code, 4, some .int)
def FC_line : MI := (⟨"FamineCode", "line", "(IIIZI)I"⟩, prog_1_method_8_code, 8, some .int)
def FC_isLine : MI := (⟨"FamineCode", "isLine", "(I)Z"⟩, prog_1_method_42_code, 2, some .boolean)
def FC_isKind : MI := (⟨"FamineCode", "isKind", "(I)Z"⟩, prog_1_method_46_code, 1, some .boolean)
def FC_isTest : MI := (⟨"FamineCode", "isTest", "(I)Z"⟩, prog_1_method_48_code, 1, some .boolean)
def Co_spanIn : MI := (⟨"FamineCode$Code", "spanIn", "(I)I"⟩, prog_4_method_3_code, 1, some .int)
def Co_add : MI := (⟨"FamineCode$Code", "add", "(IIII)I"⟩, prog_4_method_4_code, 6, some .int)
def Co_put : MI := (⟨"FamineCode$Code", "put", "(III)V"⟩, prog_4_method_6_code, 4, none)
def FC_end : MI := (⟨"FamineCode", "end", "(I)I"⟩, prog_1_method_9_code, 2, some .int)
def Co_get : MI := (⟨"FamineCode$Code", "get", "(II)I"⟩, prog_4_method_5_code, 3, some .int)
def FC_week : MI := (⟨"FamineCode", "week", "()I"⟩, prog_1_method_10_code, 1, some .int)
def St_passWeek : MI := (⟨"FamineCode$State", "passWeek", "()I"⟩, prog_8_method_3_code, 5, some .int)
def Co_inForce : MI := (⟨"FamineCode$Code", "inForce", "(I)I"⟩, prog_4_method_7_code, 5, some .int)
def Co_holding : MI := (⟨"FamineCode$Code", "holding", "(LFamineCode$Signs;III)I"⟩, prog_4_method_8_code, 9, some .int)
def Co_passes : MI := (⟨"FamineCode$Code", "passes", "(ILFamineCode$Signs;III)Z"⟩, prog_4_method_9_code, 12, some .boolean)
def Si_asKnown : MI := (⟨"FamineCode$Signs", "asKnown", "(IIII)I"⟩, prog_7_method_5_code, 7, some .int)
def Co_kindsOf : MI := (⟨"FamineCode$Code", "kindsOf", "(I)I"⟩, prog_4_method_10_code, 4, some .int)
def La_pass : MI := (⟨"FamineCode$Land", "pass", "(II)I"⟩, prog_5_method_9_code, 7, some .int)
def La_isAmong : MI := (⟨"FamineCode$Land", "isAmong", "(II)Z"⟩, prog_5_method_16_code, 2, some .boolean)
def La_eatForNothing : MI := (⟨"FamineCode$Land", "eatForNothing", "(I)I"⟩, prog_5_method_10_code, 3, some .int)
def JM_min : MI := (⟨"java/lang/Math", "min", "(II)I"⟩, prog_14_method_69_code, 2, some .int)
def La_more : MI := (⟨"FamineCode$Land", "more", "(III)V"⟩, prog_5_method_6_code, 4, none)
def La_pay : MI := (⟨"FamineCode$Land", "pay", "(II)V"⟩, prog_5_method_11_code, 6, none)
def La_receive : MI := (⟨"FamineCode$Land", "receive", "(III)V"⟩, prog_5_method_13_code, 4, none)
def La_lend : MI := (⟨"FamineCode$Land", "lend", "(II)V"⟩, prog_5_method_12_code, 4, none)
def La_buy : MI := (⟨"FamineCode$Land", "buy", "(III)I"⟩, prog_5_method_14_code, 7, some .int)
def La_suffer : MI := (⟨"FamineCode$Land", "suffer", "(III)I"⟩, prog_5_method_15_code, 5, some .int)
def FC_way : MI := (⟨"FamineCode", "way", "(IIII)I"⟩, prog_1_method_11_code, 6, some .int)
def Wa_add : MI := (⟨"FamineCode$Ways", "add", "(IIII)I"⟩, prog_9_method_3_code, 5, some .int)
def FC_work : MI := (⟨"FamineCode", "work", "(III)I"⟩, prog_1_method_12_code, 4, some .int)
def Wo_add : MI := (⟨"FamineCode$Works", "add", "(III)I"⟩, prog_10_method_3_code, 4, some .int)
def FC_bring : MI := (⟨"FamineCode", "bring", "(III)I"⟩, prog_1_method_13_code, 4, some .int)
def FC_canAskLoad : MI := (⟨"FamineCode", "canAskLoad", "(III)Z"⟩, prog_1_method_43_code, 4, some .boolean)
def Ca_plan : MI := (⟨"FamineCode$Carts", "plan", "(LFamineCode$Land;LFamineCode$Ways;III)Z"⟩, prog_3_method_2_code, 8, some .boolean)
def Ca_layWays : MI := (⟨"FamineCode$Carts", "layWays", "(LFamineCode$Ways;)V"⟩, prog_3_method_3_code, 5, none)
def Ca_layEdge : MI := (⟨"FamineCode$Carts", "layEdge", "(IIIJ)V"⟩, prog_3_method_5_code, 6, none)
def Ca_layGiven : MI := (⟨"FamineCode$Carts", "layGiven", "(LFamineCode$Land;II)V"⟩, prog_3_method_4_code, 5, none)
def JM_max : MI := (⟨"java/lang/Math", "max", "(II)I"⟩, prog_14_method_65_code, 2, some .int)
def Ca_findPath : MI := (⟨"FamineCode$Carts", "findPath", "(I)Z"⟩, prog_3_method_6_code, 5, some .boolean)
def JA_fillJ : MI := (⟨"java/util/Arrays", "fill", "([JJ)V"⟩, prog_16_method_101_code, 5, none)
def Ca_comeNearer : MI := (⟨"FamineCode$Carts", "comeNearer", "(I)Z"⟩, prog_3_method_7_code, 4, some .boolean)
def Ca_sendAlong : MI := (⟨"FamineCode$Carts", "sendAlong", "(II)I"⟩, prog_3_method_8_code, 7, some .int)
def Ca_drive : MI := (⟨"FamineCode$Carts", "drive", "(LFamineCode$Land;LFamineCode$Ways;)V"⟩, prog_3_method_10_code, 4, none)
def Ca_priceOf : MI := (⟨"FamineCode$Carts", "priceOf", "(LFamineCode$Ways;)I"⟩, prog_3_method_9_code, 4, some .int)
def FC_image : MI := (⟨"FamineCode", "image", "()I"⟩, prog_1_method_14_code, 1, some .int)
def St_copyFrom : MI := (⟨"FamineCode$State", "copyFrom", "(LFamineCode$State;)V"⟩, prog_8_method_2_code, 2, none)
def La_copyFrom : MI := (⟨"FamineCode$Land", "copyFrom", "(LFamineCode$Land;)V"⟩, prog_5_method_2_code, 2, none)
def Si_copyFrom : MI := (⟨"FamineCode$Signs", "copyFrom", "(LFamineCode$Signs;)V"⟩, prog_7_method_2_code, 2, none)
def Co_copyFrom : MI := (⟨"FamineCode$Code", "copyFrom", "(LFamineCode$Code;)V"⟩, prog_4_method_2_code, 2, none)
def Wa_copyFrom : MI := (⟨"FamineCode$Ways", "copyFrom", "(LFamineCode$Ways;)V"⟩, prog_9_method_2_code, 2, none)
def Wo_copyFrom : MI := (⟨"FamineCode$Works", "copyFrom", "(LFamineCode$Works;)V"⟩, prog_10_method_2_code, 2, none)
def FC_back : MI := (⟨"FamineCode", "back", "()I"⟩, prog_1_method_15_code, 1, some .int)
def FC_told : MI := (⟨"FamineCode", "told", "(II)I"⟩, prog_1_method_16_code, 3, some .int)
def FC_known : MI := (⟨"FamineCode", "known", "(IIII)I"⟩, prog_1_method_17_code, 5, some .int)
def FC_isAnyWeek : MI := (⟨"FamineCode", "isAnyWeek", "(I)Z"⟩, prog_1_method_47_code, 1, some .boolean)
def FC_holds : MI := (⟨"FamineCode", "holds", "(IIII)I"⟩, prog_1_method_18_code, 5, some .int)
def FC_open : MI := (⟨"FamineCode", "open", "(III)I"⟩, prog_1_method_19_code, 5, some .int)
def FC_why : MI := (⟨"FamineCode", "why", "(IIII)I"⟩, prog_1_method_20_code, 6, some .int)
def Co_leastOf : MI := (⟨"FamineCode$Code", "leastOf", "(II)I"⟩, prog_4_method_11_code, 4, some .int)
def FC_was : MI := (⟨"FamineCode", "was", "(II)I"⟩, prog_1_method_21_code, 3, some .int)
def FC_lineTold : MI := (⟨"FamineCode", "lineTold", "(II)I"⟩, prog_1_method_22_code, 3, some .int)
def FC_load : MI := (⟨"FamineCode", "load", "(III)I"⟩, prog_1_method_23_code, 5, some .int)
def FC_loaded : MI := (⟨"FamineCode", "loaded", "(IIII)I"⟩, prog_1_method_24_code, 6, some .int)
def FC_fewest : MI := (⟨"FamineCode", "fewest", "(III)I"⟩, prog_1_method_25_code, 4, some .int)
def Wa_reached : MI := (⟨"FamineCode$Ways", "reached", "(II)I"⟩, prog_9_method_4_code, 7, some .int)
def Wo_bestSet : MI := (⟨"FamineCode$Works", "bestSet", "(II)I"⟩, prog_10_method_4_code, 9, some .int)
def Wo_worksIn : MI := (⟨"FamineCode$Works", "worksIn", "(I)I"⟩, prog_10_method_5_code, 4, some .int)
def Wo_sumOver : MI := (⟨"FamineCode$Works", "sumOver", "(I[I)I"⟩, prog_10_method_6_code, 5, some .int)
def JI_bitCount : MI := (⟨"java/lang/Integer", "bitCount", "(I)I"⟩, prog_13_method_49_code, 1, some .int)
def FC_beside : MI := (⟨"FamineCode", "beside", "(III)I"⟩, prog_1_method_26_code, 5, some .int)
def St_dream : MI := (⟨"FamineCode$State", "dream", "(LFamineCode$Land;II)V"⟩, prog_8_method_4_code, 7, none)
def La_sum : MI := (⟨"FamineCode$Land", "sum", "(I)I"⟩, prog_5_method_7_code, 2, some .int)
def La_sumOfClasses : MI := (⟨"FamineCode$Land", "sumOfClasses", "(I)I"⟩, prog_5_method_8_code, 5, some .int)
def FC_count : MI := (⟨"FamineCode", "count", "(I)I"⟩, prog_1_method_27_code, 2, some .int)
def FC_act : MI := (⟨"FamineCode", "act", "(III)I"⟩, prog_1_method_28_code, 4, some .int)
def Ac_run : MI := (⟨"FamineCode$Acts", "run", "(LFamineCode$Code;III)I"⟩, prog_2_method_2_code, 5, some .int)
def Ac_own : MI := (⟨"FamineCode$Acts", "own", "(III)I"⟩, prog_2_method_3_code, 4, some .int)
def Ac_from : MI := (⟨"FamineCode$Acts", "from", "(IIII)I"⟩, prog_2_method_4_code, 7, some .int)
def Ac_body : MI := (⟨"FamineCode$Acts", "body", "(IIII)I"⟩, prog_2_method_5_code, 5, some .int)
def Ac_keepInTrace : MI := (⟨"FamineCode$Acts", "keepInTrace", "(I)V"⟩, prog_2_method_6_code, 2, none)
def FC_trace : MI := (⟨"FamineCode", "trace", "(I)I"⟩, prog_1_method_29_code, 2, some .int)
def FC_sheet : MI := (⟨"FamineCode", "sheet", "(III)I"⟩, prog_1_method_30_code, 5, some .int)
def FC_isSheet : MI := (⟨"FamineCode", "isSheet", "(I)Z"⟩, prog_1_method_49_code, 1, some .boolean)
def Sh_lay : MI := (⟨"FamineCode$Sheets", "lay", "(III)V"⟩, prog_6_method_2_code, 5, none)
def Sh_put : MI := (⟨"FamineCode$Sheets", "put", "(III)V"⟩, prog_6_method_7_code, 4, none)
def FC_cell : MI := (⟨"FamineCode", "cell", "(III)I"⟩, prog_1_method_31_code, 4, some .int)
def Sh_isMissing : MI := (⟨"FamineCode$Sheets", "isMissing", "(I)Z"⟩, prog_6_method_3_code, 2, some .boolean)
def Sh_spans : MI := (⟨"FamineCode$Sheets", "spans", "(III)Z"⟩, prog_6_method_5_code, 4, some .boolean)
def FC_signs : MI := (⟨"FamineCode", "signs", "(IIIIII)I"⟩, prog_1_method_32_code, 11, some .int)
def FC_isSheetSort : MI := (⟨"FamineCode", "isSheetSort", "(I)Z"⟩, prog_1_method_50_code, 1, some .boolean)
def Sh_faultAs : MI := (⟨"FamineCode$Sheets", "faultAs", "(II)I"⟩, prog_6_method_4_code, 3, some .int)
def Sh_allWithin : MI := (⟨"FamineCode$Sheets", "allWithin", "(IIII)Z"⟩, prog_6_method_9_code, 6, some .boolean)
def Sh_get : MI := (⟨"FamineCode$Sheets", "get", "(II)I"⟩, prog_6_method_6_code, 3, some .int)
def FC_forge : MI := (⟨"FamineCode", "forge", "(III)I"⟩, prog_1_method_33_code, 4, some .int)
def JM_floorMod : MI := (⟨"java/lang/Math", "floorMod", "(II)I"⟩, prog_14_method_50_code, 3, some .int)
def FC_forgeKind : MI := (⟨"FamineCode", "forgeKind", "(II)I"⟩, prog_1_method_35_code, 4, some .int)
def FC_isUnder : MI := (⟨"FamineCode", "isUnder", "(II)Z"⟩, prog_1_method_51_code, 4, some .boolean)
def FC_forgeShort : MI := (⟨"FamineCode", "forgeShort", "(II)I"⟩, prog_1_method_36_code, 4, some .int)
def FC_forgeCopy : MI := (⟨"FamineCode", "forgeCopy", "(II)I"⟩, prog_1_method_37_code, 4, some .int)
def Sh_sum : MI := (⟨"FamineCode$Sheets", "sum", "(III)I"⟩, prog_6_method_8_code, 6, some .int)
def FC_forgeRow : MI := (⟨"FamineCode", "forgeRow", "(I)I"⟩, prog_1_method_38_code, 3, some .int)
def FC_status : MI := (⟨"FamineCode", "status", "()I"⟩, prog_1_method_34_code, 1, some .int)
def FM_init : MI := (⟨"FamineCodeModel", "<init>", "()V"⟩, prog_12_method_1_code, 1, none)
def FM_district : MI := (⟨"FamineCodeModel", "district", "(II)I"⟩, prog_12_method_8_code, 5, some .int)
def FM_in : MI := (⟨"FamineCodeModel", "in", "(III)Z"⟩, prog_12_method_3_code, 3, some .boolean)
def FM_refused : MI := (⟨"FamineCodeModel", "refused", "(I)I"⟩, prog_12_method_4_code, 2, some .int)
def FM_done : MI := (⟨"FamineCodeModel", "done", "(I)I"⟩, prog_12_method_5_code, 2, some .int)
def FM_people : MI := (⟨"FamineCodeModel", "people", "(III)I"⟩, prog_12_method_10_code, 5, some .int)
def FM_isClass : MI := (⟨"FamineCodeModel", "isClass", "(II)Z"⟩, prog_12_method_9_code, 3, some .boolean)
def FM_isDistrict : MI := (⟨"FamineCodeModel", "isDistrict", "(I)Z"⟩, prog_12_method_6_code, 2, some .boolean)
def FM_coins : MI := (⟨"FamineCodeModel", "coins", "(III)I"⟩, prog_12_method_11_code, 5, some .int)
def FM_price : MI := (⟨"FamineCodeModel", "price", "(II)I"⟩, prog_12_method_12_code, 4, some .int)
def FM_wage : MI := (⟨"FamineCodeModel", "wage", "(I)I"⟩, prog_12_method_13_code, 3, some .int)
def FM_sign : MI := (⟨"FamineCodeModel", "sign", "(IIII)I"⟩, prog_12_method_15_code, 5, some .int)
def FM_tells : MI := (⟨"FamineCodeModel", "tells", "(IIII)V"⟩, prog_12_method_14_code, 5, none)
def FM_line : MI := (⟨"FamineCodeModel", "line", "(IIIZI)I"⟩, prog_12_method_16_code, 7, some .int)
def FM_end : MI := (⟨"FamineCodeModel", "end", "(I)I"⟩, prog_12_method_17_code, 2, some .int)
def FM_isLine : MI := (⟨"FamineCodeModel", "isLine", "(I)Z"⟩, prog_12_method_7_code, 2, some .boolean)
def FM_known : MI := (⟨"FamineCodeModel", "known", "(IIII)I"⟩, prog_12_method_19_code, 5, some .int)
def FM_isWeek : MI := (⟨"FamineCodeModel", "isWeek", "(I)Z"⟩, prog_12_method_20_code, 1, some .boolean)
def FM_signKnown : MI := (⟨"FamineCodeModel", "signKnown", "(IIII)I"⟩, prog_12_method_18_code, 6, some .int)
def FM_holds : MI := (⟨"FamineCodeModel", "holds", "(IIII)I"⟩, prog_12_method_23_code, 5, some .int)
def FM_holdsAt : MI := (⟨"FamineCodeModel", "holdsAt", "(IIII)Z"⟩, prog_12_method_22_code, 6, some .boolean)
def FM_tests : MI := (⟨"FamineCodeModel", "tests", "(IIII)Z"⟩, prog_12_method_21_code, 10, some .boolean)
def FM_open : MI := (⟨"FamineCodeModel", "open", "(III)I"⟩, prog_12_method_26_code, 4, some .int)
def FM_bits : MI := (⟨"FamineCodeModel", "bits", "(IIIII)I"⟩, prog_12_method_25_code, 8, some .int)
def FM_isInForce : MI := (⟨"FamineCodeModel", "isInForce", "(II)Z"⟩, prog_12_method_24_code, 3, some .boolean)
def FM_why : MI := (⟨"FamineCodeModel", "why", "(IIII)I"⟩, prog_12_method_27_code, 6, some .int)
def FM_was : MI := (⟨"FamineCodeModel", "was", "(II)I"⟩, prog_12_method_28_code, 3, some .int)
def FM_week : MI := (⟨"FamineCodeModel", "week", "()I"⟩, prog_12_method_34_code, 4, some .int)
def FM_lives : MI := (⟨"FamineCodeModel", "lives", "(II)I"⟩, prog_12_method_33_code, 10, some .int)
def FM_least : MI := (⟨"FamineCodeModel", "least", "(II)I"⟩, prog_12_method_32_code, 3, some .int)
def FM_pays : MI := (⟨"FamineCodeModel", "pays", "(II)V"⟩, prog_12_method_30_code, 6, none)
def FM_gets : MI := (⟨"FamineCodeModel", "gets", "(II)V"⟩, prog_12_method_29_code, 3, none)
def FM_lends : MI := (⟨"FamineCodeModel", "lends", "(II)V"⟩, prog_12_method_31_code, 4, none)
def FM_way : MI := (⟨"FamineCodeModel", "way", "(IIII)I"⟩, prog_12_method_35_code, 5, some .int)
def FM_work : MI := (⟨"FamineCodeModel", "work", "(III)I"⟩, prog_12_method_36_code, 4, some .int)
def FM_load : MI := (⟨"FamineCodeModel", "load", "(III)I"⟩, prog_12_method_44_code, 5, some .int)
def FM_isLoad : MI := (⟨"FamineCodeModel", "isLoad", "(III)Z"⟩, prog_12_method_42_code, 4, some .boolean)
def FM_findLoad : MI := (⟨"FamineCodeModel", "findLoad", "(III)I"⟩, prog_12_method_43_code, 8, some .int)
def FM_flow : MI := (⟨"FamineCodeModel", "flow", "(III)I"⟩, prog_12_method_41_code, 7, some .int)
def FM_findFar : MI := (⟨"FamineCodeModel", "findFar", "(I)V"⟩, prog_12_method_38_code, 4, none)
def FM_reaches : MI := (⟨"FamineCodeModel", "reaches", "(IIII)V"⟩, prog_12_method_37_code, 5, none)
def FM_widest : MI := (⟨"FamineCodeModel", "widest", "(II)I"⟩, prog_12_method_39_code, 6, some .int)
def FM_goes : MI := (⟨"FamineCodeModel", "goes", "(II)V"⟩, prog_12_method_40_code, 5, none)
def FM_loaded : MI := (⟨"FamineCodeModel", "loaded", "(IIII)I"⟩, prog_12_method_45_code, 5, some .int)
def FM_bring : MI := (⟨"FamineCodeModel", "bring", "(III)I"⟩, prog_12_method_46_code, 6, some .int)
def FM_fewest : MI := (⟨"FamineCodeModel", "fewest", "(III)I"⟩, prog_12_method_50_code, 9, some .int)
def FM_reachedBy : MI := (⟨"FamineCodeModel", "reachedBy", "(II)I"⟩, prog_12_method_47_code, 7, some .int)
def FM_sumOf : MI := (⟨"FamineCodeModel", "sumOf", "(IZ)I"⟩, prog_12_method_48_code, 5, some .int)
def FM_many : MI := (⟨"FamineCodeModel", "many", "(I)I"⟩, prog_12_method_49_code, 3, some .int)
def FM_beside : MI := (⟨"FamineCodeModel", "beside", "(III)I"⟩, prog_12_method_54_code, 8, some .int)
def FM_keep : MI := (⟨"FamineCodeModel", "keep", "(I)V"⟩, prog_12_method_51_code, 3, none)
def FM_allDead : MI := (⟨"FamineCodeModel", "allDead", "()I"⟩, prog_12_method_53_code, 3, some .int)
def FM_lay : MI := (⟨"FamineCodeModel", "lay", "(I)V"⟩, prog_12_method_52_code, 3, none)
def FM_image : MI := (⟨"FamineCodeModel", "image", "()I"⟩, prog_12_method_55_code, 2, some .int)
def FM_back : MI := (⟨"FamineCodeModel", "back", "()I"⟩, prog_12_method_56_code, 2, some .int)
def FM_told : MI := (⟨"FamineCodeModel", "told", "(II)I"⟩, prog_12_method_57_code, 3, some .int)
def FM_lineTold : MI := (⟨"FamineCodeModel", "lineTold", "(II)I"⟩, prog_12_method_58_code, 3, some .int)
def FM_count : MI := (⟨"FamineCodeModel", "count", "(I)I"⟩, prog_12_method_59_code, 2, some .int)
def FM_act : MI := (⟨"FamineCodeModel", "act", "(III)I"⟩, prog_12_method_71_code, 4, some .int)
def FM_openOf : MI := (⟨"FamineCodeModel", "openOf", "(II)I"⟩, prog_12_method_62_code, 3, some .int)
def FM_ran : MI := (⟨"FamineCodeModel", "ran", "(I)V"⟩, prog_12_method_60_code, 2, none)
def FM_open10 : MI := (⟨"FamineCodeModel", "open10", "(II)I"⟩, prog_12_method_61_code, 3, some .int)
def FM_payOf : MI := (⟨"FamineCodeModel", "payOf", "(II)I"⟩, prog_12_method_65_code, 3, some .int)
def FM_pay20 : MI := (⟨"FamineCodeModel", "pay20", "(II)I"⟩, prog_12_method_64_code, 3, some .int)
def FM_pay11 : MI := (⟨"FamineCodeModel", "pay11", "(II)I"⟩, prog_12_method_63_code, 3, some .int)
def FM_endOf : MI := (⟨"FamineCodeModel", "endOf", "(II)I"⟩, prog_12_method_68_code, 4, some .int)
def FM_end12 : MI := (⟨"FamineCodeModel", "end12", "(II)I"⟩, prog_12_method_66_code, 3, some .int)
def FM_end50 : MI := (⟨"FamineCodeModel", "end50", "(II)I"⟩, prog_12_method_67_code, 3, some .int)
def FM_tellOf : MI := (⟨"FamineCodeModel", "tellOf", "(II)I"⟩, prog_12_method_70_code, 4, some .int)
def FM_tell13 : MI := (⟨"FamineCodeModel", "tell13", "(II)I"⟩, prog_12_method_69_code, 4, some .int)
def FM_trace : MI := (⟨"FamineCodeModel", "trace", "(I)I"⟩, prog_12_method_72_code, 2, some .int)
def FM_sheet : MI := (⟨"FamineCodeModel", "sheet", "(III)I"⟩, prog_12_method_73_code, 5, some .int)
def FM_cell : MI := (⟨"FamineCodeModel", "cell", "(III)I"⟩, prog_12_method_74_code, 4, some .int)
def FM_signs : MI := (⟨"FamineCodeModel", "signs", "(IIIIII)I"⟩, prog_12_method_75_code, 8, some .int)
def FM_forge : MI := (⟨"FamineCodeModel", "forge", "(III)I"⟩, prog_12_method_80_code, 5, some .int)
def FM_modulo : MI := (⟨"FamineCodeModel", "modulo", "(II)I"⟩, prog_12_method_76_code, 2, some .int)
def FM_isUnder : MI := (⟨"FamineCodeModel", "isUnder", "(II)Z"⟩, prog_12_method_77_code, 4, some .boolean)
def FM_shorts : MI := (⟨"FamineCodeModel", "shorts", "(II)I"⟩, prog_12_method_79_code, 3, some .int)
def FM_copied : MI := (⟨"FamineCodeModel", "copied", "(II)I"⟩, prog_12_method_78_code, 5, some .int)
def FM_status : MI := (⟨"FamineCodeModel", "status", "()I"⟩, prog_12_method_81_code, 1, some .int)
def LW_law : MI := (x, code, 4, ret)
abbrev isSt (o : Nat) : Prop := LAY[o]? = some (Sum.inl (6, [some (some (o + 1)), some (some (o + 3)), some (some (o + 8)), some (some (o + 10)), some (some (o + 15)), some (some (o + 19)), none])) ∧ LAY[(o + 1)]? = some (Sum.inl (3, [some (some (o + 2)), none, none, none, none, none])) ∧ LAY[(o + 3)]? = some (Sum.inl (5, [some (some (o + 4)), some (some (o + 5)), some (some (o + 6)), some (some (o + 7)), none])) ∧ LAY[(o + 8)]? = some (Sum.inl (2, [some (some (o + 9)), none])) ∧ LAY[(o + 10)]? = some (Sum.inl (7, [some (some (o + 11)), some (some (o + 12)), some (some (o + 13)), some (some (o + 14)), none])) ∧ LAY[(o + 15)]? = some (Sum.inl (8, [some (some (o + 16)), some (some (o + 17)), some (some (o + 18)), none])) ∧ LAY[(o + 19)]? = some (Sum.inr (0, 360))
abbrev isLa (o : Nat) : Prop := LAY[o]? = some (Sum.inl (3, [some (some (o + 1)), none, none, none, none, none])) ∧ LAY[(o + 1)]? = some (Sum.inr (0, 90))
abbrev isSi (o : Nat) : Prop := LAY[o]? = some (Sum.inl (5, [some (some (o + 1)), some (some (o + 2)), some (some (o + 3)), some (some (o + 4)), none])) ∧ LAY[(o + 1)]? = some (Sum.inr (0, 200)) ∧ LAY[(o + 2)]? = some (Sum.inr (0, 200)) ∧ LAY[(o + 3)]? = some (Sum.inr (0, 200)) ∧ LAY[(o + 4)]? = some (Sum.inr (0, 1464))
abbrev isCo (o : Nat) : Prop := LAY[o]? = some (Sum.inl (2, [some (some (o + 1)), none])) ∧ LAY[(o + 1)]? = some (Sum.inr (0, 108))
abbrev isWa (o : Nat) : Prop := LAY[o]? = some (Sum.inl (7, [some (some (o + 1)), some (some (o + 2)), some (some (o + 3)), some (some (o + 4)), none])) ∧ LAY[(o + 1)]? = some (Sum.inr (0, 12)) ∧ LAY[(o + 2)]? = some (Sum.inr (0, 12)) ∧ LAY[(o + 3)]? = some (Sum.inr (0, 12)) ∧ LAY[(o + 4)]? = some (Sum.inr (0, 12))
abbrev isWo (o : Nat) : Prop := LAY[o]? = some (Sum.inl (8, [some (some (o + 1)), some (some (o + 2)), some (some (o + 3)), none])) ∧ LAY[(o + 1)]? = some (Sum.inr (0, 8)) ∧ LAY[(o + 2)]? = some (Sum.inr (0, 8)) ∧ LAY[(o + 3)]? = some (Sum.inr (0, 8))
def rv : Option Value → Int32
  | some (.int x) => x
  | _ => 0
/-- the walk over the finished heap's layout -/
def E (X : SX) (d : Nat) (y : MI) (pc : Nat) (L st : List Value) (h : HH) (Q : Int32 → HH → Prop) : Prop := Ev X d 0 0 y pc L st (LAY, h) (fun r σ' => σ'.1 = LAY ∧ Q (rv r) σ'.2)
theorem E.cons {X : SX} {d : Nat} {y : MI} {pc : Nat} {L st : List Value} {h : HH} {Q Q' : Int32 → HH → Prop} (k : E X d y pc L st h Q') (hq : ∀ r h', Q' r h' → Q r h') : E X d y pc L st h Q := Ev.cons k (fun r σ' q => ⟨q.1, hq _ _ q.2⟩)
theorem E.callSi {X : SX} {d : Nat} {y y' : MI} {pc ix n : Nat} {L st args : List Value} {h : HH} {Q : Int32 → HH → Prop} (hd : decode y.2.1 pc = .ok (.invokestatic ix, 3)) (hM : okM y') (hw1 : Cond.methodLink y.1.cls ix y'.1 ∈ gtbl) (hw2 : Cond.static y'.1 ∈ gtbl) (hn : args.length = n) (hds : (parseMethodDescriptor y'.1.desc).map (fun d => d.parameters.length) = some n) (hen : (enl args).length ≤ y'.2.2.1) (hcat : (st.map (fun v => v.category)).sum ≤ 8) (hrt : y'.2.2.2 ≠ none) (kk : E X d y' 0 (entl args y'.2.2.1) [] h (fun x h' => E X (d + 1) y (pc + 3) L (.int x :: st) h' Q)) : E X (d + 1) y pc L (args.reverse ++ st) h Q := by
  refine Ev.callS (mc := 0) (ms := 0) (mc1 := 0) (ms1 := 0) hd hM hw1 hw2 hn hds hen hcat (Or.inl rfl) kk ?_
  rintro r ⟨lay, h'⟩ ⟨h1, h2⟩ h3
  have h1 : lay = LAY := h1
  subst h1
  rcases h3 with ⟨-, h3⟩ | ⟨x, rfl, -⟩
  · exact absurd h3 hrt
  · exact h2
theorem E.callSv {X : SX} {d : Nat} {y y' : MI} {pc ix n : Nat} {L st args : List Value} {h : HH} {Q : Int32 → HH → Prop} (hd : decode y.2.1 pc = .ok (.invokestatic ix, 3)) (hM : okM y') (hw1 : Cond.methodLink y.1.cls ix y'.1 ∈ gtbl) (hw2 : Cond.static y'.1 ∈ gtbl) (hn : args.length = n) (hds : (parseMethodDescriptor y'.1.desc).map (fun d => d.parameters.length) = some n) (hen : (enl args).length ≤ y'.2.2.1) (hcat : (st.map (fun v => v.category)).sum ≤ 8) (hrt : y'.2.2.2 = none) (kk : E X d y' 0 (entl args y'.2.2.1) [] h (fun x h' => E X (d + 1) y (pc + 3) L st h' Q)) : E X (d + 1) y pc L (args.reverse ++ st) h Q := by
  refine Ev.callS (mc := 0) (ms := 0) (mc1 := 0) (ms1 := 0) hd hM hw1 hw2 hn hds hen hcat (Or.inl rfl) kk ?_
  rintro r ⟨lay, h'⟩ ⟨h1, h2⟩ h3
  have h1 : lay = LAY := h1
  subst h1
  rcases h3 with ⟨rfl, -⟩ | ⟨x, -, h3⟩
  · exact h2
  · exact absurd hrt h3
theorem E.callSNi {X : SX} {d : Nat} {y y' : MI} {pc ix n : Nat} {L st args : List Value} {h : HH} {Q : Int32 → HH → Prop} {host : String} (hd : decode y.2.1 pc = .ok (.invokestatic ix, 3)) (hM : okM y') (hw1 : Cond.methodLinkNest y.1.cls ix y'.1 host ∈ ntbl) (hw2 : Cond.static y'.1 ∈ gtbl) (hn : args.length = n) (hds : (parseMethodDescriptor y'.1.desc).map (fun d => d.parameters.length) = some n) (hen : (enl args).length ≤ y'.2.2.1) (hcat : (st.map (fun v => v.category)).sum ≤ 8) (hrt : y'.2.2.2 ≠ none) (kk : E X d y' 0 (entl args y'.2.2.1) [] h (fun x h' => E X (d + 1) y (pc + 3) L (.int x :: st) h' Q)) : E X (d + 1) y pc L (args.reverse ++ st) h Q := by
  refine Ev.callSN (mc := 0) (ms := 0) (mc1 := 0) (ms1 := 0) hd hM hw1 hw2 hn hds hen hcat (Or.inl rfl) kk ?_
  rintro r ⟨lay, h'⟩ ⟨h1, h2⟩ h3
  have h1 : lay = LAY := h1
  subst h1
  rcases h3 with ⟨-, h3⟩ | ⟨x, rfl, -⟩
  · exact absurd h3 hrt
  · exact h2
theorem E.callSNv {X : SX} {d : Nat} {y y' : MI} {pc ix n : Nat} {L st args : List Value} {h : HH} {Q : Int32 → HH → Prop} {host : String} (hd : decode y.2.1 pc = .ok (.invokestatic ix, 3)) (hM : okM y') (hw1 : Cond.methodLinkNest y.1.cls ix y'.1 host ∈ ntbl) (hw2 : Cond.static y'.1 ∈ gtbl) (hn : args.length = n) (hds : (parseMethodDescriptor y'.1.desc).map (fun d => d.parameters.length) = some n) (hen : (enl args).length ≤ y'.2.2.1) (hcat : (st.map (fun v => v.category)).sum ≤ 8) (hrt : y'.2.2.2 = none) (kk : E X d y' 0 (entl args y'.2.2.1) [] h (fun x h' => E X (d + 1) y (pc + 3) L st h' Q)) : E X (d + 1) y pc L (args.reverse ++ st) h Q := by
  refine Ev.callSN (mc := 0) (ms := 0) (mc1 := 0) (ms1 := 0) hd hM hw1 hw2 hn hds hen hcat (Or.inl rfl) kk ?_
  rintro r ⟨lay, h'⟩ ⟨h1, h2⟩ h3
  have h1 : lay = LAY := h1
  subst h1
  rcases h3 with ⟨rfl, -⟩ | ⟨x, -, h3⟩
  · exact h2
  · exact absurd hrt h3
theorem E.callVi {X : SX} {d : Nat} {y y' : MI} {pc ix n : Nat} {L st args : List Value} {h : HH} {Q : Int32 → HH → Prop} {id ci : Nat} {q : vw_C} {ks : List (Option (Option Nat))} (hd : decode y.2.1 pc = .ok (.invokevirtual ix, 3)) (hM : okM y') (hlay : LAY[id]? = some (.inl (ci, ks))) (hcl : vwCl[ci]? = some q) (hq : q.1 = y'.1.cls) (hw1 : Cond.methodLink y.1.cls ix y'.1 ∈ gtbl) (hw2 : Cond.instanceMethod y'.1 ∈ gtbl) (hw3 : Cond.selects y'.1.cls y'.1 y'.1 ∈ gtbl) (hn : args.length = n) (hds : (parseMethodDescriptor y'.1.desc).map (fun d => d.parameters.length) = some n) (hen : (enl (.ref id :: args)).length ≤ y'.2.2.1) (hcat : (st.map (fun v => v.category)).sum ≤ 8) (hrt : y'.2.2.2 ≠ none) (kk : E X d y' 0 (entl (.ref id :: args) y'.2.2.1) [] h (fun x h' => E X (d + 1) y (pc + 3) L (.int x :: st) h' Q)) : E X (d + 1) y pc L (args.reverse ++ .ref id :: st) h Q := by
  refine Ev.callV (mc := 0) (ms := 0) (mc1 := 0) (ms1 := 0) hd hM hlay hcl hq hw1 hw2 hw3 hn hds hen hcat (Or.inl rfl) kk ?_
  rintro r ⟨lay, h'⟩ ⟨h1, h2⟩ h3
  have h1 : lay = LAY := h1
  subst h1
  rcases h3 with ⟨-, h3⟩ | ⟨x, rfl, -⟩
  · exact absurd h3 hrt
  · exact h2
theorem E.callVv {X : SX} {d : Nat} {y y' : MI} {pc ix n : Nat} {L st args : List Value} {h : HH} {Q : Int32 → HH → Prop} {id ci : Nat} {q : vw_C} {ks : List (Option (Option Nat))} (hd : decode y.2.1 pc = .ok (.invokevirtual ix, 3)) (hM : okM y') (hlay : LAY[id]? = some (.inl (ci, ks))) (hcl : vwCl[ci]? = some q) (hq : q.1 = y'.1.cls) (hw1 : Cond.methodLink y.1.cls ix y'.1 ∈ gtbl) (hw2 : Cond.instanceMethod y'.1 ∈ gtbl) (hw3 : Cond.selects y'.1.cls y'.1 y'.1 ∈ gtbl) (hn : args.length = n) (hds : (parseMethodDescriptor y'.1.desc).map (fun d => d.parameters.length) = some n) (hen : (enl (.ref id :: args)).length ≤ y'.2.2.1) (hcat : (st.map (fun v => v.category)).sum ≤ 8) (hrt : y'.2.2.2 = none) (kk : E X d y' 0 (entl (.ref id :: args) y'.2.2.1) [] h (fun x h' => E X (d + 1) y (pc + 3) L st h' Q)) : E X (d + 1) y pc L (args.reverse ++ .ref id :: st) h Q := by
  refine Ev.callV (mc := 0) (ms := 0) (mc1 := 0) (ms1 := 0) hd hM hlay hcl hq hw1 hw2 hw3 hn hds hen hcat (Or.inl rfl) kk ?_
  rintro r ⟨lay, h'⟩ ⟨h1, h2⟩ h3
  have h1 : lay = LAY := h1
  subst h1
  rcases h3 with ⟨rfl, -⟩ | ⟨x, -, h3⟩
  · exact h2
  · exact absurd hrt h3
theorem gt_p {q : MethodName × Nat} (h : q ∈ lw_privs) : Cond.selects q.1.cls q.1 q.1 ∈ gtbl := gt_of (List.mem_append_left _ (List.mem_map.mpr ⟨q, h, rfl⟩)) rfl
theorem gt_p0 {q : MethodName × Nat} (h : q ∈ lw_privs_1) : Cond.selects q.1.cls q.1 q.1 ∈ gtbl := gt_p (show q ∈ lw_privs from List.mem_append_left _ h)
theorem gt_p1 {q : MethodName × Nat} (h : q ∈ lw_privs_2) : Cond.selects q.1.cls q.1 q.1 ∈ gtbl := gt_p (show q ∈ lw_privs from List.mem_append_right _ (List.mem_append_left _ h))
theorem gt_p2 {q : MethodName × Nat} (h : q ∈ lw_privs_3) : Cond.selects q.1.cls q.1 q.1 ∈ gtbl := gt_p (show q ∈ lw_privs from List.mem_append_right _ (List.mem_append_right _ (List.mem_append_left _ h)))
theorem gt_p3 {q : MethodName × Nat} (h : q ∈ lw_privs_4) : Cond.selects q.1.cls q.1 q.1 ∈ gtbl := gt_p (show q ∈ lw_privs from List.mem_append_right _ (List.mem_append_right _ (List.mem_append_right _ (h))))
theorem gt_t0 {w : Cond} (h : w ∈ tables_1_1) (g : goodWord w = true) : w ∈ gtbl := gt_of (List.mem_append_right _ (show w ∈ tables_1 from List.mem_append_left _ h)) g
theorem gt_t1 {w : Cond} (h : w ∈ tables_1_2) (g : goodWord w = true) : w ∈ gtbl := gt_of (List.mem_append_right _ (show w ∈ tables_1 from List.mem_append_right _ (List.mem_append_left _ h))) g
theorem gt_t2 {w : Cond} (h : w ∈ tables_1_3) (g : goodWord w = true) : w ∈ gtbl := gt_of (List.mem_append_right _ (show w ∈ tables_1 from List.mem_append_right _ (List.mem_append_right _ (List.mem_append_left _ h)))) g
theorem gt_t3 {w : Cond} (h : w ∈ tables_1_4) (g : goodWord w = true) : w ∈ gtbl := gt_of (List.mem_append_right _ (show w ∈ tables_1 from List.mem_append_right _ (List.mem_append_right _ (List.mem_append_right _ (List.mem_append_left _ h))))) g
theorem gt_t4 {w : Cond} (h : w ∈ tables_1_5) (g : goodWord w = true) : w ∈ gtbl := gt_of (List.mem_append_right _ (show w ∈ tables_1 from List.mem_append_right _ (List.mem_append_right _ (List.mem_append_right _ (List.mem_append_right _ (List.mem_append_left _ h)))))) g
theorem gt_t5 {w : Cond} (h : w ∈ tables_1_6) (g : goodWord w = true) : w ∈ gtbl := gt_of (List.mem_append_right _ (show w ∈ tables_1 from List.mem_append_right _ (List.mem_append_right _ (List.mem_append_right _ (List.mem_append_right _ (List.mem_append_right _ (h))))))) g
set_option maxRecDepth 20000 in
theorem wd_0 : Jvm.Cond.selects "FamineCode" ({ cls := "FamineCode", name := "refuse", desc := "(I)I" } : Jvm.MethodName) ({ cls := "FamineCode", name := "refuse", desc := "(I)I" } : Jvm.MethodName) ∈ gtbl := gt_p0 (List.mem_of_getElem? (i := 0) rfl)
set_option maxRecDepth 20000 in
theorem wd_1 : Jvm.Cond.selects "FamineCode" ({ cls := "FamineCode", name := "done", desc := "(I)I" } : Jvm.MethodName) ({ cls := "FamineCode", name := "done", desc := "(I)I" } : Jvm.MethodName) ∈ gtbl := gt_p0 (List.mem_of_getElem? (i := 1) rfl)
set_option maxRecDepth 20000 in
theorem wd_2 : Jvm.Cond.selects "FamineCode" ({ cls := "FamineCode", name := "isDistrict", desc := "(I)Z" } : Jvm.MethodName) ({ cls := "FamineCode", name := "isDistrict", desc := "(I)Z" } : Jvm.MethodName) ∈ gtbl := gt_p0 (List.mem_of_getElem? (i := 2) rfl)
set_option maxRecDepth 20000 in
theorem wd_3 : Jvm.Cond.selects "FamineCode" ({ cls := "FamineCode", name := "isLine", desc := "(I)Z" } : Jvm.MethodName) ({ cls := "FamineCode", name := "isLine", desc := "(I)Z" } : Jvm.MethodName) ∈ gtbl := gt_p0 (List.mem_of_getElem? (i := 3) rfl)
set_option maxRecDepth 20000 in
theorem wd_4 : Jvm.Cond.selects "FamineCode" ({ cls := "FamineCode", name := "canAskLoad", desc := "(III)Z" } : Jvm.MethodName) ({ cls := "FamineCode", name := "canAskLoad", desc := "(III)Z" } : Jvm.MethodName) ∈ gtbl := gt_p0 (List.mem_of_getElem? (i := 4) rfl)
set_option maxRecDepth 20000 in
theorem wd_5 : Jvm.Cond.selects "FamineCode$Carts" ({ cls := "FamineCode$Carts", name := "layWays", desc := "(LFamineCode$Ways;)V" } : Jvm.MethodName) ({ cls := "FamineCode$Carts", name := "layWays", desc := "(LFamineCode$Ways;)V" } : Jvm.MethodName) ∈ gtbl := gt_p0 (List.mem_of_getElem? (i := 5) rfl)
set_option maxRecDepth 20000 in
theorem wd_6 : Jvm.Cond.selects "FamineCode$Carts" ({ cls := "FamineCode$Carts", name := "layEdge", desc := "(IIIJ)V" } : Jvm.MethodName) ({ cls := "FamineCode$Carts", name := "layEdge", desc := "(IIIJ)V" } : Jvm.MethodName) ∈ gtbl := gt_p0 (List.mem_of_getElem? (i := 6) rfl)
set_option maxRecDepth 20000 in
theorem wd_7 : Jvm.Cond.selects "FamineCode$Carts" ({ cls := "FamineCode$Carts", name := "layGiven", desc := "(LFamineCode$Land;II)V" } : Jvm.MethodName) ({ cls := "FamineCode$Carts", name := "layGiven", desc := "(LFamineCode$Land;II)V" } : Jvm.MethodName) ∈ gtbl := gt_p0 (List.mem_of_getElem? (i := 7) rfl)
set_option maxRecDepth 20000 in
theorem wd_8 : Jvm.Cond.selects "FamineCode$Carts" ({ cls := "FamineCode$Carts", name := "findPath", desc := "(I)Z" } : Jvm.MethodName) ({ cls := "FamineCode$Carts", name := "findPath", desc := "(I)Z" } : Jvm.MethodName) ∈ gtbl := gt_p0 (List.mem_of_getElem? (i := 8) rfl)
set_option maxRecDepth 20000 in
theorem wd_9 : Jvm.Cond.selects "FamineCode$Carts" ({ cls := "FamineCode$Carts", name := "comeNearer", desc := "(I)Z" } : Jvm.MethodName) ({ cls := "FamineCode$Carts", name := "comeNearer", desc := "(I)Z" } : Jvm.MethodName) ∈ gtbl := gt_p0 (List.mem_of_getElem? (i := 9) rfl)
set_option maxRecDepth 20000 in
theorem wd_10 : Jvm.Cond.selects "FamineCode$Carts" ({ cls := "FamineCode$Carts", name := "sendAlong", desc := "(II)I" } : Jvm.MethodName) ({ cls := "FamineCode$Carts", name := "sendAlong", desc := "(II)I" } : Jvm.MethodName) ∈ gtbl := gt_p0 (List.mem_of_getElem? (i := 10) rfl)
set_option maxRecDepth 20000 in
theorem wd_11 : Jvm.Cond.selects "FamineCode$Acts" ({ cls := "FamineCode$Acts", name := "own", desc := "(III)I" } : Jvm.MethodName) ({ cls := "FamineCode$Acts", name := "own", desc := "(III)I" } : Jvm.MethodName) ∈ gtbl := gt_p0 (List.mem_of_getElem? (i := 11) rfl)
set_option maxRecDepth 20000 in
theorem wd_12 : Jvm.Cond.selects "FamineCode$Acts" ({ cls := "FamineCode$Acts", name := "from", desc := "(IIII)I" } : Jvm.MethodName) ({ cls := "FamineCode$Acts", name := "from", desc := "(IIII)I" } : Jvm.MethodName) ∈ gtbl := gt_p0 (List.mem_of_getElem? (i := 12) rfl)
set_option maxRecDepth 20000 in
theorem wd_13 : Jvm.Cond.selects "FamineCode$Acts" ({ cls := "FamineCode$Acts", name := "body", desc := "(IIII)I" } : Jvm.MethodName) ({ cls := "FamineCode$Acts", name := "body", desc := "(IIII)I" } : Jvm.MethodName) ∈ gtbl := gt_p0 (List.mem_of_getElem? (i := 13) rfl)
set_option maxRecDepth 20000 in
theorem wd_14 : Jvm.Cond.selects "FamineCode$Acts" ({ cls := "FamineCode$Acts", name := "keepInTrace", desc := "(I)V" } : Jvm.MethodName) ({ cls := "FamineCode$Acts", name := "keepInTrace", desc := "(I)V" } : Jvm.MethodName) ∈ gtbl := gt_p0 (List.mem_of_getElem? (i := 14) rfl)
set_option maxRecDepth 20000 in
theorem wd_15 : Jvm.Cond.selects "FamineCode" ({ cls := "FamineCode", name := "forgeKind", desc := "(II)I" } : Jvm.MethodName) ({ cls := "FamineCode", name := "forgeKind", desc := "(II)I" } : Jvm.MethodName) ∈ gtbl := gt_p0 (List.mem_of_getElem? (i := 15) rfl)
set_option maxRecDepth 20000 in
theorem wd_16 : Jvm.Cond.selects "FamineCode" ({ cls := "FamineCode", name := "forgeShort", desc := "(II)I" } : Jvm.MethodName) ({ cls := "FamineCode", name := "forgeShort", desc := "(II)I" } : Jvm.MethodName) ∈ gtbl := gt_p1 (List.mem_of_getElem? (i := 0) rfl)
set_option maxRecDepth 20000 in
theorem wd_17 : Jvm.Cond.selects "FamineCode" ({ cls := "FamineCode", name := "forgeCopy", desc := "(II)I" } : Jvm.MethodName) ({ cls := "FamineCode", name := "forgeCopy", desc := "(II)I" } : Jvm.MethodName) ∈ gtbl := gt_p1 (List.mem_of_getElem? (i := 1) rfl)
set_option maxRecDepth 20000 in
theorem wd_18 : Jvm.Cond.selects "FamineCode" ({ cls := "FamineCode", name := "forgeRow", desc := "(I)I" } : Jvm.MethodName) ({ cls := "FamineCode", name := "forgeRow", desc := "(I)I" } : Jvm.MethodName) ∈ gtbl := gt_p1 (List.mem_of_getElem? (i := 2) rfl)
set_option maxRecDepth 20000 in
theorem wd_19 : Jvm.Cond.selects "FamineCodeModel" ({ cls := "FamineCodeModel", name := "refused", desc := "(I)I" } : Jvm.MethodName) ({ cls := "FamineCodeModel", name := "refused", desc := "(I)I" } : Jvm.MethodName) ∈ gtbl := gt_p1 (List.mem_of_getElem? (i := 3) rfl)
set_option maxRecDepth 20000 in
theorem wd_20 : Jvm.Cond.selects "FamineCodeModel" ({ cls := "FamineCodeModel", name := "done", desc := "(I)I" } : Jvm.MethodName) ({ cls := "FamineCodeModel", name := "done", desc := "(I)I" } : Jvm.MethodName) ∈ gtbl := gt_p1 (List.mem_of_getElem? (i := 4) rfl)
set_option maxRecDepth 20000 in
theorem wd_21 : Jvm.Cond.selects "FamineCodeModel" ({ cls := "FamineCodeModel", name := "isClass", desc := "(II)Z" } : Jvm.MethodName) ({ cls := "FamineCodeModel", name := "isClass", desc := "(II)Z" } : Jvm.MethodName) ∈ gtbl := gt_p1 (List.mem_of_getElem? (i := 5) rfl)
set_option maxRecDepth 20000 in
theorem wd_22 : Jvm.Cond.selects "FamineCodeModel" ({ cls := "FamineCodeModel", name := "isDistrict", desc := "(I)Z" } : Jvm.MethodName) ({ cls := "FamineCodeModel", name := "isDistrict", desc := "(I)Z" } : Jvm.MethodName) ∈ gtbl := gt_p1 (List.mem_of_getElem? (i := 6) rfl)
set_option maxRecDepth 20000 in
theorem wd_23 : Jvm.Cond.selects "FamineCodeModel" ({ cls := "FamineCodeModel", name := "tells", desc := "(IIII)V" } : Jvm.MethodName) ({ cls := "FamineCodeModel", name := "tells", desc := "(IIII)V" } : Jvm.MethodName) ∈ gtbl := gt_p1 (List.mem_of_getElem? (i := 7) rfl)
set_option maxRecDepth 20000 in
theorem wd_24 : Jvm.Cond.selects "FamineCodeModel" ({ cls := "FamineCodeModel", name := "isLine", desc := "(I)Z" } : Jvm.MethodName) ({ cls := "FamineCodeModel", name := "isLine", desc := "(I)Z" } : Jvm.MethodName) ∈ gtbl := gt_p1 (List.mem_of_getElem? (i := 8) rfl)
set_option maxRecDepth 20000 in
theorem wd_25 : Jvm.Cond.selects "FamineCodeModel" ({ cls := "FamineCodeModel", name := "signKnown", desc := "(IIII)I" } : Jvm.MethodName) ({ cls := "FamineCodeModel", name := "signKnown", desc := "(IIII)I" } : Jvm.MethodName) ∈ gtbl := gt_p1 (List.mem_of_getElem? (i := 9) rfl)
set_option maxRecDepth 20000 in
theorem wd_26 : Jvm.Cond.selects "FamineCodeModel" ({ cls := "FamineCodeModel", name := "holdsAt", desc := "(IIII)Z" } : Jvm.MethodName) ({ cls := "FamineCodeModel", name := "holdsAt", desc := "(IIII)Z" } : Jvm.MethodName) ∈ gtbl := gt_p1 (List.mem_of_getElem? (i := 10) rfl)
set_option maxRecDepth 20000 in
theorem wd_27 : Jvm.Cond.selects "FamineCodeModel" ({ cls := "FamineCodeModel", name := "tests", desc := "(IIII)Z" } : Jvm.MethodName) ({ cls := "FamineCodeModel", name := "tests", desc := "(IIII)Z" } : Jvm.MethodName) ∈ gtbl := gt_p1 (List.mem_of_getElem? (i := 11) rfl)
set_option maxRecDepth 20000 in
theorem wd_28 : Jvm.Cond.selects "FamineCodeModel" ({ cls := "FamineCodeModel", name := "bits", desc := "(IIIII)I" } : Jvm.MethodName) ({ cls := "FamineCodeModel", name := "bits", desc := "(IIIII)I" } : Jvm.MethodName) ∈ gtbl := gt_p1 (List.mem_of_getElem? (i := 12) rfl)
set_option maxRecDepth 20000 in
theorem wd_29 : Jvm.Cond.selects "FamineCodeModel" ({ cls := "FamineCodeModel", name := "isInForce", desc := "(II)Z" } : Jvm.MethodName) ({ cls := "FamineCodeModel", name := "isInForce", desc := "(II)Z" } : Jvm.MethodName) ∈ gtbl := gt_p1 (List.mem_of_getElem? (i := 13) rfl)
set_option maxRecDepth 20000 in
theorem wd_30 : Jvm.Cond.selects "FamineCodeModel" ({ cls := "FamineCodeModel", name := "lives", desc := "(II)I" } : Jvm.MethodName) ({ cls := "FamineCodeModel", name := "lives", desc := "(II)I" } : Jvm.MethodName) ∈ gtbl := gt_p1 (List.mem_of_getElem? (i := 14) rfl)
set_option maxRecDepth 20000 in
theorem wd_31 : Jvm.Cond.selects "FamineCodeModel" ({ cls := "FamineCodeModel", name := "least", desc := "(II)I" } : Jvm.MethodName) ({ cls := "FamineCodeModel", name := "least", desc := "(II)I" } : Jvm.MethodName) ∈ gtbl := gt_p1 (List.mem_of_getElem? (i := 15) rfl)
set_option maxRecDepth 20000 in
theorem wd_32 : Jvm.Cond.selects "FamineCodeModel" ({ cls := "FamineCodeModel", name := "pays", desc := "(II)V" } : Jvm.MethodName) ({ cls := "FamineCodeModel", name := "pays", desc := "(II)V" } : Jvm.MethodName) ∈ gtbl := gt_p2 (List.mem_of_getElem? (i := 0) rfl)
set_option maxRecDepth 20000 in
theorem wd_33 : Jvm.Cond.selects "FamineCodeModel" ({ cls := "FamineCodeModel", name := "gets", desc := "(II)V" } : Jvm.MethodName) ({ cls := "FamineCodeModel", name := "gets", desc := "(II)V" } : Jvm.MethodName) ∈ gtbl := gt_p2 (List.mem_of_getElem? (i := 1) rfl)
set_option maxRecDepth 20000 in
theorem wd_34 : Jvm.Cond.selects "FamineCodeModel" ({ cls := "FamineCodeModel", name := "lends", desc := "(II)V" } : Jvm.MethodName) ({ cls := "FamineCodeModel", name := "lends", desc := "(II)V" } : Jvm.MethodName) ∈ gtbl := gt_p2 (List.mem_of_getElem? (i := 2) rfl)
set_option maxRecDepth 20000 in
theorem wd_35 : Jvm.Cond.selects "FamineCodeModel" ({ cls := "FamineCodeModel", name := "isLoad", desc := "(III)Z" } : Jvm.MethodName) ({ cls := "FamineCodeModel", name := "isLoad", desc := "(III)Z" } : Jvm.MethodName) ∈ gtbl := gt_p2 (List.mem_of_getElem? (i := 3) rfl)
set_option maxRecDepth 20000 in
theorem wd_36 : Jvm.Cond.selects "FamineCodeModel" ({ cls := "FamineCodeModel", name := "findLoad", desc := "(III)I" } : Jvm.MethodName) ({ cls := "FamineCodeModel", name := "findLoad", desc := "(III)I" } : Jvm.MethodName) ∈ gtbl := gt_p2 (List.mem_of_getElem? (i := 4) rfl)
set_option maxRecDepth 20000 in
theorem wd_37 : Jvm.Cond.selects "FamineCodeModel" ({ cls := "FamineCodeModel", name := "flow", desc := "(III)I" } : Jvm.MethodName) ({ cls := "FamineCodeModel", name := "flow", desc := "(III)I" } : Jvm.MethodName) ∈ gtbl := gt_p2 (List.mem_of_getElem? (i := 5) rfl)
set_option maxRecDepth 20000 in
theorem wd_38 : Jvm.Cond.selects "FamineCodeModel" ({ cls := "FamineCodeModel", name := "findFar", desc := "(I)V" } : Jvm.MethodName) ({ cls := "FamineCodeModel", name := "findFar", desc := "(I)V" } : Jvm.MethodName) ∈ gtbl := gt_p2 (List.mem_of_getElem? (i := 6) rfl)
set_option maxRecDepth 20000 in
theorem wd_39 : Jvm.Cond.selects "FamineCodeModel" ({ cls := "FamineCodeModel", name := "reaches", desc := "(IIII)V" } : Jvm.MethodName) ({ cls := "FamineCodeModel", name := "reaches", desc := "(IIII)V" } : Jvm.MethodName) ∈ gtbl := gt_p2 (List.mem_of_getElem? (i := 7) rfl)
set_option maxRecDepth 20000 in
theorem wd_40 : Jvm.Cond.selects "FamineCodeModel" ({ cls := "FamineCodeModel", name := "widest", desc := "(II)I" } : Jvm.MethodName) ({ cls := "FamineCodeModel", name := "widest", desc := "(II)I" } : Jvm.MethodName) ∈ gtbl := gt_p2 (List.mem_of_getElem? (i := 8) rfl)
set_option maxRecDepth 20000 in
theorem wd_41 : Jvm.Cond.selects "FamineCodeModel" ({ cls := "FamineCodeModel", name := "goes", desc := "(II)V" } : Jvm.MethodName) ({ cls := "FamineCodeModel", name := "goes", desc := "(II)V" } : Jvm.MethodName) ∈ gtbl := gt_p2 (List.mem_of_getElem? (i := 9) rfl)
set_option maxRecDepth 20000 in
theorem wd_42 : Jvm.Cond.selects "FamineCodeModel" ({ cls := "FamineCodeModel", name := "reachedBy", desc := "(II)I" } : Jvm.MethodName) ({ cls := "FamineCodeModel", name := "reachedBy", desc := "(II)I" } : Jvm.MethodName) ∈ gtbl := gt_p2 (List.mem_of_getElem? (i := 10) rfl)
set_option maxRecDepth 20000 in
theorem wd_43 : Jvm.Cond.selects "FamineCodeModel" ({ cls := "FamineCodeModel", name := "sumOf", desc := "(IZ)I" } : Jvm.MethodName) ({ cls := "FamineCodeModel", name := "sumOf", desc := "(IZ)I" } : Jvm.MethodName) ∈ gtbl := gt_p2 (List.mem_of_getElem? (i := 11) rfl)
set_option maxRecDepth 20000 in
theorem wd_44 : Jvm.Cond.selects "FamineCodeModel" ({ cls := "FamineCodeModel", name := "keep", desc := "(I)V" } : Jvm.MethodName) ({ cls := "FamineCodeModel", name := "keep", desc := "(I)V" } : Jvm.MethodName) ∈ gtbl := gt_p2 (List.mem_of_getElem? (i := 12) rfl)
set_option maxRecDepth 20000 in
theorem wd_45 : Jvm.Cond.selects "FamineCodeModel" ({ cls := "FamineCodeModel", name := "allDead", desc := "()I" } : Jvm.MethodName) ({ cls := "FamineCodeModel", name := "allDead", desc := "()I" } : Jvm.MethodName) ∈ gtbl := gt_p2 (List.mem_of_getElem? (i := 13) rfl)
set_option maxRecDepth 20000 in
theorem wd_46 : Jvm.Cond.selects "FamineCodeModel" ({ cls := "FamineCodeModel", name := "lay", desc := "(I)V" } : Jvm.MethodName) ({ cls := "FamineCodeModel", name := "lay", desc := "(I)V" } : Jvm.MethodName) ∈ gtbl := gt_p2 (List.mem_of_getElem? (i := 14) rfl)
set_option maxRecDepth 20000 in
theorem wd_47 : Jvm.Cond.selects "FamineCodeModel" ({ cls := "FamineCodeModel", name := "openOf", desc := "(II)I" } : Jvm.MethodName) ({ cls := "FamineCodeModel", name := "openOf", desc := "(II)I" } : Jvm.MethodName) ∈ gtbl := gt_p2 (List.mem_of_getElem? (i := 15) rfl)
set_option maxRecDepth 20000 in
theorem wd_48 : Jvm.Cond.selects "FamineCodeModel" ({ cls := "FamineCodeModel", name := "ran", desc := "(I)V" } : Jvm.MethodName) ({ cls := "FamineCodeModel", name := "ran", desc := "(I)V" } : Jvm.MethodName) ∈ gtbl := gt_p3 (List.mem_of_getElem? (i := 0) rfl)
set_option maxRecDepth 20000 in
theorem wd_49 : Jvm.Cond.selects "FamineCodeModel" ({ cls := "FamineCodeModel", name := "open10", desc := "(II)I" } : Jvm.MethodName) ({ cls := "FamineCodeModel", name := "open10", desc := "(II)I" } : Jvm.MethodName) ∈ gtbl := gt_p3 (List.mem_of_getElem? (i := 1) rfl)
set_option maxRecDepth 20000 in
theorem wd_50 : Jvm.Cond.selects "FamineCodeModel" ({ cls := "FamineCodeModel", name := "payOf", desc := "(II)I" } : Jvm.MethodName) ({ cls := "FamineCodeModel", name := "payOf", desc := "(II)I" } : Jvm.MethodName) ∈ gtbl := gt_p3 (List.mem_of_getElem? (i := 2) rfl)
set_option maxRecDepth 20000 in
theorem wd_51 : Jvm.Cond.selects "FamineCodeModel" ({ cls := "FamineCodeModel", name := "pay20", desc := "(II)I" } : Jvm.MethodName) ({ cls := "FamineCodeModel", name := "pay20", desc := "(II)I" } : Jvm.MethodName) ∈ gtbl := gt_p3 (List.mem_of_getElem? (i := 3) rfl)
set_option maxRecDepth 20000 in
theorem wd_52 : Jvm.Cond.selects "FamineCodeModel" ({ cls := "FamineCodeModel", name := "pay11", desc := "(II)I" } : Jvm.MethodName) ({ cls := "FamineCodeModel", name := "pay11", desc := "(II)I" } : Jvm.MethodName) ∈ gtbl := gt_p3 (List.mem_of_getElem? (i := 4) rfl)
set_option maxRecDepth 20000 in
theorem wd_53 : Jvm.Cond.selects "FamineCodeModel" ({ cls := "FamineCodeModel", name := "endOf", desc := "(II)I" } : Jvm.MethodName) ({ cls := "FamineCodeModel", name := "endOf", desc := "(II)I" } : Jvm.MethodName) ∈ gtbl := gt_p3 (List.mem_of_getElem? (i := 5) rfl)
set_option maxRecDepth 20000 in
theorem wd_54 : Jvm.Cond.selects "FamineCodeModel" ({ cls := "FamineCodeModel", name := "end12", desc := "(II)I" } : Jvm.MethodName) ({ cls := "FamineCodeModel", name := "end12", desc := "(II)I" } : Jvm.MethodName) ∈ gtbl := gt_p3 (List.mem_of_getElem? (i := 6) rfl)
set_option maxRecDepth 20000 in
theorem wd_55 : Jvm.Cond.selects "FamineCodeModel" ({ cls := "FamineCodeModel", name := "end50", desc := "(II)I" } : Jvm.MethodName) ({ cls := "FamineCodeModel", name := "end50", desc := "(II)I" } : Jvm.MethodName) ∈ gtbl := gt_p3 (List.mem_of_getElem? (i := 7) rfl)
set_option maxRecDepth 20000 in
theorem wd_56 : Jvm.Cond.selects "FamineCodeModel" ({ cls := "FamineCodeModel", name := "tellOf", desc := "(II)I" } : Jvm.MethodName) ({ cls := "FamineCodeModel", name := "tellOf", desc := "(II)I" } : Jvm.MethodName) ∈ gtbl := gt_p3 (List.mem_of_getElem? (i := 8) rfl)
set_option maxRecDepth 20000 in
theorem wd_57 : Jvm.Cond.selects "FamineCodeModel" ({ cls := "FamineCodeModel", name := "tell13", desc := "(II)I" } : Jvm.MethodName) ({ cls := "FamineCodeModel", name := "tell13", desc := "(II)I" } : Jvm.MethodName) ∈ gtbl := gt_p3 (List.mem_of_getElem? (i := 9) rfl)
set_option maxRecDepth 20000 in
theorem wd_58 : Jvm.Cond.selects "FamineCodeModel" ({ cls := "FamineCodeModel", name := "isUnder", desc := "(II)Z" } : Jvm.MethodName) ({ cls := "FamineCodeModel", name := "isUnder", desc := "(II)Z" } : Jvm.MethodName) ∈ gtbl := gt_p3 (List.mem_of_getElem? (i := 10) rfl)
set_option maxRecDepth 20000 in
theorem wd_59 : Jvm.Cond.selects "FamineCodeModel" ({ cls := "FamineCodeModel", name := "shorts", desc := "(II)I" } : Jvm.MethodName) ({ cls := "FamineCodeModel", name := "shorts", desc := "(II)I" } : Jvm.MethodName) ∈ gtbl := gt_p3 (List.mem_of_getElem? (i := 11) rfl)
set_option maxRecDepth 20000 in
theorem wd_60 : Jvm.Cond.selects "FamineCodeModel" ({ cls := "FamineCodeModel", name := "copied", desc := "(II)I" } : Jvm.MethodName) ({ cls := "FamineCodeModel", name := "copied", desc := "(II)I" } : Jvm.MethodName) ∈ gtbl := gt_p3 (List.mem_of_getElem? (i := 12) rfl)
set_option maxRecDepth 20000 in
theorem wd_62 : (Jvm.Cond.initialized "FamineCode") ∈ gtbl := gt_t0 (List.mem_of_getElem? (i := 1) rfl) rfl
set_option maxRecDepth 20000 in
theorem wd_63 : (Jvm.Cond.initialized "FamineCode$State") ∈ gtbl := gt_t0 (List.mem_of_getElem? (i := 2) rfl) rfl
set_option maxRecDepth 20000 in
theorem wd_64 : (Jvm.Cond.initialized "FamineCode$Land") ∈ gtbl := gt_t0 (List.mem_of_getElem? (i := 3) rfl) rfl
set_option maxRecDepth 20000 in
theorem wd_65 : (Jvm.Cond.initialized "FamineCode$Signs") ∈ gtbl := gt_t0 (List.mem_of_getElem? (i := 4) rfl) rfl
set_option maxRecDepth 20000 in
theorem wd_66 : (Jvm.Cond.initialized "FamineCode$Code") ∈ gtbl := gt_t0 (List.mem_of_getElem? (i := 5) rfl) rfl
set_option maxRecDepth 20000 in
theorem wd_67 : (Jvm.Cond.initialized "FamineCode$Ways") ∈ gtbl := gt_t0 (List.mem_of_getElem? (i := 6) rfl) rfl
set_option maxRecDepth 20000 in
theorem wd_68 : (Jvm.Cond.initialized "FamineCode$Works") ∈ gtbl := gt_t0 (List.mem_of_getElem? (i := 7) rfl) rfl
set_option maxRecDepth 20000 in
theorem wd_69 : (Jvm.Cond.initialized "FamineCode$Carts") ∈ gtbl := gt_t0 (List.mem_of_getElem? (i := 8) rfl) rfl
set_option maxRecDepth 20000 in
theorem wd_70 : (Jvm.Cond.initialized "FamineCode$Acts") ∈ gtbl := gt_t0 (List.mem_of_getElem? (i := 9) rfl) rfl
set_option maxRecDepth 20000 in
theorem wd_71 : (Jvm.Cond.initialized "FamineCode$Sheets") ∈ gtbl := gt_t0 (List.mem_of_getElem? (i := 10) rfl) rfl
set_option maxRecDepth 20000 in
theorem wd_72 : (Jvm.Cond.initialized "java/util/Arrays") ∈ gtbl := gt_t0 (List.mem_of_getElem? (i := 11) rfl) rfl
set_option maxRecDepth 20000 in
theorem wd_73 : (Jvm.Cond.initialized "FamineCodeModel") ∈ gtbl := gt_t0 (List.mem_of_getElem? (i := 12) rfl) rfl
set_option maxRecDepth 20000 in
theorem wd_74 : (Jvm.Cond.initialized "java/lang/Math") ∈ gtbl := gt_t0 (List.mem_of_getElem? (i := 13) rfl) rfl
set_option maxRecDepth 20000 in
theorem wd_75 : (Jvm.Cond.initialized "java/lang/System") ∈ gtbl := gt_t0 (List.mem_of_getElem? (i := 14) rfl) rfl
set_option maxRecDepth 20000 in
theorem wd_76 : (Jvm.Cond.initialized "java/lang/Integer") ∈ gtbl := gt_t0 (List.mem_of_getElem? (i := 15) rfl) rfl
set_option maxRecDepth 20000 in
theorem wd_81 : (Jvm.Cond.code ({ cls := "FamineCode", name := "<init>", desc := "()V" } : Jvm.MethodName) prog_1_method_1_code (1 : Nat) (Option.none : Option Jvm.ClassFile.FieldType)) ∈ gtbl := gt_t0 (List.mem_of_getElem? (i := 20) rfl) rfl
set_option maxRecDepth 20000 in
theorem wd_89 : (Jvm.Cond.code ({ cls := "FamineCode$State", name := "<init>", desc := "()V" } : Jvm.MethodName) prog_8_method_1_code (1 : Nat) (Option.none : Option Jvm.ClassFile.FieldType)) ∈ gtbl := gt_t0 (List.mem_of_getElem? (i := 28) rfl) rfl
set_option maxRecDepth 20000 in
theorem wd_95 : (Jvm.Cond.code ({ cls := "FamineCode$Land", name := "<init>", desc := "()V" } : Jvm.MethodName) prog_5_method_1_code (1 : Nat) (Option.none : Option Jvm.ClassFile.FieldType)) ∈ gtbl := gt_t0 (List.mem_of_getElem? (i := 34) rfl) rfl
set_option maxRecDepth 20000 in
theorem wd_97 : (Jvm.Cond.fieldLink "FamineCode$Land" (11 : Nat) "FamineCode$Land" "facts" "[I") ∈ gtbl := gt_t0 (List.mem_of_getElem? (i := 36) rfl) rfl
set_option maxRecDepth 20000 in
theorem wd_98 : (Jvm.Cond.fieldLink "FamineCode$Land" (25 : Nat) "FamineCode$Land" "count" "I") ∈ gtbl := gt_t0 (List.mem_of_getElem? (i := 37) rfl) rfl
set_option maxRecDepth 20000 in
theorem wd_99 : (Jvm.Cond.fieldLink "FamineCode" (59 : Nat) "FamineCode$Land" "count" "I") ∈ gtbl := gt_t0 (List.mem_of_getElem? (i := 38) rfl) rfl
set_option maxRecDepth 20000 in
theorem wd_100 : (Jvm.Cond.fieldLink "FamineCode$State" (80 : Nat) "FamineCode$Land" "count" "I") ∈ gtbl := gt_t0 (List.mem_of_getElem? (i := 39) rfl) rfl
set_option maxRecDepth 20000 in
theorem wd_101 : (Jvm.Cond.fieldLink "FamineCode$Carts" (89 : Nat) "FamineCode$Land" "count" "I") ∈ gtbl := gt_t0 (List.mem_of_getElem? (i := 40) rfl) rfl
set_option maxRecDepth 20000 in
theorem wd_102 : (Jvm.Cond.fieldLink "FamineCode$Land" (15 : Nat) "FamineCode$Land" "wage" "I") ∈ gtbl := gt_t0 (List.mem_of_getElem? (i := 41) rfl) rfl
set_option maxRecDepth 20000 in
theorem wd_103 : (Jvm.Cond.fieldLink "FamineCode" (81 : Nat) "FamineCode$Land" "wage" "I") ∈ gtbl := gt_t0 (List.mem_of_getElem? (i := 42) rfl) rfl
set_option maxRecDepth 20000 in
theorem wd_104 : (Jvm.Cond.fieldLink "FamineCode$Land" (28 : Nat) "FamineCode$Land" "paid" "I") ∈ gtbl := gt_t0 (List.mem_of_getElem? (i := 43) rfl) rfl
set_option maxRecDepth 20000 in
theorem wd_105 : (Jvm.Cond.fieldLink "FamineCode" (218 : Nat) "FamineCode$Land" "paid" "I") ∈ gtbl := gt_t0 (List.mem_of_getElem? (i := 44) rfl) rfl
set_option maxRecDepth 20000 in
theorem wd_106 : (Jvm.Cond.fieldLink "FamineCode$Land" (31 : Nat) "FamineCode$Land" "lent" "I") ∈ gtbl := gt_t0 (List.mem_of_getElem? (i := 45) rfl) rfl
set_option maxRecDepth 20000 in
theorem wd_107 : (Jvm.Cond.fieldLink "FamineCode" (221 : Nat) "FamineCode$Land" "lent" "I") ∈ gtbl := gt_t0 (List.mem_of_getElem? (i := 46) rfl) rfl
set_option maxRecDepth 20000 in
theorem wd_108 : (Jvm.Cond.fieldLink "FamineCode$Land" (34 : Nat) "FamineCode$Land" "earned" "I") ∈ gtbl := gt_t0 (List.mem_of_getElem? (i := 47) rfl) rfl
set_option maxRecDepth 20000 in
theorem wd_109 : (Jvm.Cond.fieldLink "FamineCode" (224 : Nat) "FamineCode$Land" "earned" "I") ∈ gtbl := gt_t0 (List.mem_of_getElem? (i := 48) rfl) rfl
set_option maxRecDepth 20000 in
theorem wd_128 : (Jvm.Cond.code ({ cls := "FamineCode$Signs", name := "<init>", desc := "()V" } : Jvm.MethodName) prog_7_method_1_code (1 : Nat) (Option.none : Option Jvm.ClassFile.FieldType)) ∈ gtbl := gt_t0 (List.mem_of_getElem? (i := 67) rfl) rfl
set_option maxRecDepth 20000 in
theorem wd_130 : (Jvm.Cond.fieldLink "FamineCode$Signs" (9 : Nat) "FamineCode$Signs" "number" "[I") ∈ gtbl := gt_t0 (List.mem_of_getElem? (i := 69) rfl) rfl
set_option maxRecDepth 20000 in
theorem wd_131 : (Jvm.Cond.fieldLink "FamineCode$Signs" (15 : Nat) "FamineCode$Signs" "toldAt" "[I") ∈ gtbl := gt_t0 (List.mem_of_getElem? (i := 70) rfl) rfl
set_option maxRecDepth 20000 in
theorem wd_132 : (Jvm.Cond.fieldLink "FamineCode$Signs" (18 : Nat) "FamineCode$Signs" "before" "[I") ∈ gtbl := gt_t0 (List.mem_of_getElem? (i := 71) rfl) rfl
set_option maxRecDepth 20000 in
theorem wd_133 : (Jvm.Cond.fieldLink "FamineCode$Signs" (21 : Nat) "FamineCode$Signs" "last" "[I") ∈ gtbl := gt_t0 (List.mem_of_getElem? (i := 72) rfl) rfl
set_option maxRecDepth 20000 in
theorem wd_134 : (Jvm.Cond.fieldLink "FamineCode$Signs" (30 : Nat) "FamineCode$Signs" "count" "I") ∈ gtbl := gt_t0 (List.mem_of_getElem? (i := 73) rfl) rfl
set_option maxRecDepth 20000 in
theorem wd_135 : (Jvm.Cond.fieldLink "FamineCode" (94 : Nat) "FamineCode$Signs" "count" "I") ∈ gtbl := gt_t0 (List.mem_of_getElem? (i := 74) rfl) rfl
set_option maxRecDepth 20000 in
theorem wd_151 : (Jvm.Cond.code ({ cls := "FamineCode$Code", name := "<init>", desc := "()V" } : Jvm.MethodName) prog_4_method_1_code (1 : Nat) (Option.none : Option Jvm.ClassFile.FieldType)) ∈ gtbl := gt_t0 (List.mem_of_getElem? (i := 90) rfl) rfl
set_option maxRecDepth 20000 in
theorem wd_153 : (Jvm.Cond.fieldLink "FamineCode$Code" (11 : Nat) "FamineCode$Code" "facts" "[I") ∈ gtbl := gt_t0 (List.mem_of_getElem? (i := 92) rfl) rfl
set_option maxRecDepth 20000 in
theorem wd_154 : (Jvm.Cond.fieldLink "FamineCode$Code" (21 : Nat) "FamineCode$Code" "count" "I") ∈ gtbl := gt_t0 (List.mem_of_getElem? (i := 93) rfl) rfl
set_option maxRecDepth 20000 in
theorem wd_155 : (Jvm.Cond.fieldLink "FamineCode" (115 : Nat) "FamineCode$Code" "count" "I") ∈ gtbl := gt_t0 (List.mem_of_getElem? (i := 94) rfl) rfl
set_option maxRecDepth 20000 in
theorem wd_165 : (Jvm.Cond.code ({ cls := "FamineCode$Ways", name := "<init>", desc := "()V" } : Jvm.MethodName) prog_9_method_1_code (1 : Nat) (Option.none : Option Jvm.ClassFile.FieldType)) ∈ gtbl := gt_t0 (List.mem_of_getElem? (i := 104) rfl) rfl
set_option maxRecDepth 20000 in
theorem wd_167 : (Jvm.Cond.fieldLink "FamineCode$Ways" (9 : Nat) "FamineCode$Ways" "from" "[I") ∈ gtbl := gt_t0 (List.mem_of_getElem? (i := 106) rfl) rfl
set_option maxRecDepth 20000 in
theorem wd_168 : (Jvm.Cond.fieldLink "FamineCode$Carts" (76 : Nat) "FamineCode$Ways" "from" "[I") ∈ gtbl := gt_t0 (List.mem_of_getElem? (i := 107) rfl) rfl
set_option maxRecDepth 20000 in
theorem wd_169 : (Jvm.Cond.fieldLink "FamineCode$Ways" (15 : Nat) "FamineCode$Ways" "to" "[I") ∈ gtbl := gt_t0 (List.mem_of_getElem? (i := 108) rfl) rfl
set_option maxRecDepth 20000 in
theorem wd_170 : (Jvm.Cond.fieldLink "FamineCode$Carts" (79 : Nat) "FamineCode$Ways" "to" "[I") ∈ gtbl := gt_t0 (List.mem_of_getElem? (i := 109) rfl) rfl
set_option maxRecDepth 20000 in
theorem wd_171 : (Jvm.Cond.fieldLink "FamineCode$Ways" (18 : Nat) "FamineCode$Ways" "cap" "[I") ∈ gtbl := gt_t0 (List.mem_of_getElem? (i := 110) rfl) rfl
set_option maxRecDepth 20000 in
theorem wd_172 : (Jvm.Cond.fieldLink "FamineCode$Carts" (86 : Nat) "FamineCode$Ways" "cap" "[I") ∈ gtbl := gt_t0 (List.mem_of_getElem? (i := 111) rfl) rfl
set_option maxRecDepth 20000 in
theorem wd_173 : (Jvm.Cond.fieldLink "FamineCode$Ways" (21 : Nat) "FamineCode$Ways" "price" "[I") ∈ gtbl := gt_t0 (List.mem_of_getElem? (i := 112) rfl) rfl
set_option maxRecDepth 20000 in
theorem wd_174 : (Jvm.Cond.fieldLink "FamineCode$Carts" (68 : Nat) "FamineCode$Ways" "price" "[I") ∈ gtbl := gt_t0 (List.mem_of_getElem? (i := 113) rfl) rfl
set_option maxRecDepth 20000 in
theorem wd_175 : (Jvm.Cond.fieldLink "FamineCode$Ways" (30 : Nat) "FamineCode$Ways" "count" "I") ∈ gtbl := gt_t0 (List.mem_of_getElem? (i := 114) rfl) rfl
set_option maxRecDepth 20000 in
theorem wd_176 : (Jvm.Cond.fieldLink "FamineCode$Carts" (62 : Nat) "FamineCode$Ways" "count" "I") ∈ gtbl := gt_t0 (List.mem_of_getElem? (i := 115) rfl) rfl
set_option maxRecDepth 20000 in
theorem wd_177 : (Jvm.Cond.fieldLink "FamineCode" (135 : Nat) "FamineCode$Ways" "count" "I") ∈ gtbl := gt_t0 (List.mem_of_getElem? (i := 116) rfl) rfl
set_option maxRecDepth 20000 in
theorem wd_193 : (Jvm.Cond.code ({ cls := "FamineCode$Works", name := "<init>", desc := "()V" } : Jvm.MethodName) prog_10_method_1_code (1 : Nat) (Option.none : Option Jvm.ClassFile.FieldType)) ∈ gtbl := gt_t0 (List.mem_of_getElem? (i := 132) rfl) rfl
set_option maxRecDepth 20000 in
theorem wd_195 : (Jvm.Cond.fieldLink "FamineCode$Works" (9 : Nat) "FamineCode$Works" "in" "[I") ∈ gtbl := gt_t0 (List.mem_of_getElem? (i := 134) rfl) rfl
set_option maxRecDepth 20000 in
theorem wd_196 : (Jvm.Cond.fieldLink "FamineCode$Works" (15 : Nat) "FamineCode$Works" "hands" "[I") ∈ gtbl := gt_t0 (List.mem_of_getElem? (i := 135) rfl) rfl
set_option maxRecDepth 20000 in
theorem wd_197 : (Jvm.Cond.fieldLink "FamineCode$Works" (18 : Nat) "FamineCode$Works" "worth" "[I") ∈ gtbl := gt_t0 (List.mem_of_getElem? (i := 136) rfl) rfl
set_option maxRecDepth 20000 in
theorem wd_198 : (Jvm.Cond.fieldLink "FamineCode$Works" (27 : Nat) "FamineCode$Works" "count" "I") ∈ gtbl := gt_t0 (List.mem_of_getElem? (i := 137) rfl) rfl
set_option maxRecDepth 20000 in
theorem wd_199 : (Jvm.Cond.fieldLink "FamineCode" (143 : Nat) "FamineCode$Works" "count" "I") ∈ gtbl := gt_t0 (List.mem_of_getElem? (i := 138) rfl) rfl
set_option maxRecDepth 20000 in
theorem wd_209 : (Jvm.Cond.fieldLink "FamineCode$State" (12 : Nat) "FamineCode$State" "land" "LFamineCode$Land;") ∈ gtbl := gt_t0 (List.mem_of_getElem? (i := 148) rfl) rfl
set_option maxRecDepth 20000 in
theorem wd_210 : (Jvm.Cond.fieldLink "FamineCode" (56 : Nat) "FamineCode$State" "land" "LFamineCode$Land;") ∈ gtbl := gt_t0 (List.mem_of_getElem? (i := 149) rfl) rfl
set_option maxRecDepth 20000 in
theorem wd_211 : (Jvm.Cond.fieldLink "FamineCode$State" (21 : Nat) "FamineCode$State" "signs" "LFamineCode$Signs;") ∈ gtbl := gt_t0 (List.mem_of_getElem? (i := 150) rfl) rfl
set_option maxRecDepth 20000 in
theorem wd_212 : (Jvm.Cond.fieldLink "FamineCode" (90 : Nat) "FamineCode$State" "signs" "LFamineCode$Signs;") ∈ gtbl := gt_t0 (List.mem_of_getElem? (i := 151) rfl) rfl
set_option maxRecDepth 20000 in
theorem wd_213 : (Jvm.Cond.fieldLink "FamineCode$State" (28 : Nat) "FamineCode$State" "code" "LFamineCode$Code;") ∈ gtbl := gt_t0 (List.mem_of_getElem? (i := 152) rfl) rfl
set_option maxRecDepth 20000 in
theorem wd_214 : (Jvm.Cond.fieldLink "FamineCode" (111 : Nat) "FamineCode$State" "code" "LFamineCode$Code;") ∈ gtbl := gt_t0 (List.mem_of_getElem? (i := 153) rfl) rfl
set_option maxRecDepth 20000 in
theorem wd_215 : (Jvm.Cond.fieldLink "FamineCode$State" (35 : Nat) "FamineCode$State" "ways" "LFamineCode$Ways;") ∈ gtbl := gt_t0 (List.mem_of_getElem? (i := 154) rfl) rfl
set_option maxRecDepth 20000 in
theorem wd_216 : (Jvm.Cond.fieldLink "FamineCode" (131 : Nat) "FamineCode$State" "ways" "LFamineCode$Ways;") ∈ gtbl := gt_t0 (List.mem_of_getElem? (i := 155) rfl) rfl
set_option maxRecDepth 20000 in
theorem wd_217 : (Jvm.Cond.fieldLink "FamineCode$State" (42 : Nat) "FamineCode$State" "works" "LFamineCode$Works;") ∈ gtbl := gt_t0 (List.mem_of_getElem? (i := 156) rfl) rfl
set_option maxRecDepth 20000 in
theorem wd_218 : (Jvm.Cond.fieldLink "FamineCode" (139 : Nat) "FamineCode$State" "works" "LFamineCode$Works;") ∈ gtbl := gt_t0 (List.mem_of_getElem? (i := 157) rfl) rfl
set_option maxRecDepth 20000 in
theorem wd_219 : (Jvm.Cond.fieldLink "FamineCode$State" (46 : Nat) "FamineCode$State" "opened" "[I") ∈ gtbl := gt_t0 (List.mem_of_getElem? (i := 158) rfl) rfl
set_option maxRecDepth 20000 in
theorem wd_220 : (Jvm.Cond.fieldLink "FamineCode" (193 : Nat) "FamineCode$State" "opened" "[I") ∈ gtbl := gt_t0 (List.mem_of_getElem? (i := 159) rfl) rfl
set_option maxRecDepth 20000 in
theorem wd_221 : (Jvm.Cond.fieldLink "FamineCode$State" (72 : Nat) "FamineCode$State" "week" "I") ∈ gtbl := gt_t0 (List.mem_of_getElem? (i := 160) rfl) rfl
set_option maxRecDepth 20000 in
theorem wd_222 : (Jvm.Cond.fieldLink "FamineCode" (87 : Nat) "FamineCode$State" "week" "I") ∈ gtbl := gt_t0 (List.mem_of_getElem? (i := 161) rfl) rfl
set_option maxRecDepth 20000 in
theorem wd_244 : (Jvm.Cond.code ({ cls := "FamineCode$Carts", name := "<init>", desc := "()V" } : Jvm.MethodName) prog_3_method_1_code (1 : Nat) (Option.none : Option Jvm.ClassFile.FieldType)) ∈ gtbl := gt_t0 (List.mem_of_getElem? (i := 183) rfl) rfl
set_option maxRecDepth 20000 in
theorem wd_246 : (Jvm.Cond.fieldLink "FamineCode$Carts" (11 : Nat) "FamineCode$Carts" "tons" "[I") ∈ gtbl := gt_t0 (List.mem_of_getElem? (i := 185) rfl) rfl
set_option maxRecDepth 20000 in
theorem wd_247 : (Jvm.Cond.fieldLink "FamineCode" (197 : Nat) "FamineCode$Carts" "tons" "[I") ∈ gtbl := gt_t0 (List.mem_of_getElem? (i := 186) rfl) rfl
set_option maxRecDepth 20000 in
theorem wd_248 : (Jvm.Cond.fieldLink "FamineCode$Carts" (15 : Nat) "FamineCode$Carts" "tail" "[I") ∈ gtbl := gt_t0 (List.mem_of_getElem? (i := 187) rfl) rfl
set_option maxRecDepth 20000 in
theorem wd_249 : (Jvm.Cond.fieldLink "FamineCode$Carts" (18 : Nat) "FamineCode$Carts" "head" "[I") ∈ gtbl := gt_t0 (List.mem_of_getElem? (i := 188) rfl) rfl
set_option maxRecDepth 20000 in
theorem wd_250 : (Jvm.Cond.fieldLink "FamineCode$Carts" (21 : Nat) "FamineCode$Carts" "room" "[I") ∈ gtbl := gt_t0 (List.mem_of_getElem? (i := 189) rfl) rfl
set_option maxRecDepth 20000 in
theorem wd_251 : (Jvm.Cond.fieldLink "FamineCode$Carts" (24 : Nat) "FamineCode$Carts" "cost" "[J") ∈ gtbl := gt_t0 (List.mem_of_getElem? (i := 190) rfl) rfl
set_option maxRecDepth 20000 in
theorem wd_252 : (Jvm.Cond.fieldLink "FamineCode$Carts" (28 : Nat) "FamineCode$Carts" "distance" "[J") ∈ gtbl := gt_t0 (List.mem_of_getElem? (i := 191) rfl) rfl
set_option maxRecDepth 20000 in
theorem wd_253 : (Jvm.Cond.fieldLink "FamineCode$Carts" (31 : Nat) "FamineCode$Carts" "edgeInto" "[I") ∈ gtbl := gt_t0 (List.mem_of_getElem? (i := 192) rfl) rfl
set_option maxRecDepth 20000 in
theorem wd_274 : (Jvm.Cond.code ({ cls := "FamineCode$Acts", name := "<init>", desc := "()V" } : Jvm.MethodName) prog_2_method_1_code (1 : Nat) (Option.none : Option Jvm.ClassFile.FieldType)) ∈ gtbl := gt_t0 (List.mem_of_getElem? (i := 213) rfl) rfl
set_option maxRecDepth 20000 in
theorem wd_276 : (Jvm.Cond.fieldLink "FamineCode$Acts" (11 : Nat) "FamineCode$Acts" "trace" "[I") ∈ gtbl := gt_t0 (List.mem_of_getElem? (i := 215) rfl) rfl
set_option maxRecDepth 20000 in
theorem wd_277 : (Jvm.Cond.fieldLink "FamineCode" (234 : Nat) "FamineCode$Acts" "trace" "[I") ∈ gtbl := gt_t0 (List.mem_of_getElem? (i := 216) rfl) rfl
set_option maxRecDepth 20000 in
theorem wd_278 : (Jvm.Cond.fieldLink "FamineCode$Acts" (34 : Nat) "FamineCode$Acts" "ran" "I") ∈ gtbl := gt_t0 (List.mem_of_getElem? (i := 217) rfl) rfl
set_option maxRecDepth 20000 in
theorem wd_279 : (Jvm.Cond.fieldLink "FamineCode" (227 : Nat) "FamineCode$Acts" "ran" "I") ∈ gtbl := gt_t0 (List.mem_of_getElem? (i := 218) rfl) rfl
set_option maxRecDepth 20000 in
theorem wd_280 : (Jvm.Cond.fieldLink "FamineCode$Acts" (15 : Nat) "FamineCode$Acts" "number" "I") ∈ gtbl := gt_t0 (List.mem_of_getElem? (i := 219) rfl) rfl
set_option maxRecDepth 20000 in
theorem wd_281 : (Jvm.Cond.fieldLink "FamineCode$Acts" (25 : Nat) "FamineCode$Acts" "kind" "I") ∈ gtbl := gt_t0 (List.mem_of_getElem? (i := 220) rfl) rfl
set_option maxRecDepth 20000 in
theorem wd_282 : (Jvm.Cond.fieldLink "FamineCode$Acts" (28 : Nat) "FamineCode$Acts" "least" "I") ∈ gtbl := gt_t0 (List.mem_of_getElem? (i := 221) rfl) rfl
set_option maxRecDepth 20000 in
theorem wd_283 : (Jvm.Cond.fieldLink "FamineCode$Acts" (31 : Nat) "FamineCode$Acts" "span" "I") ∈ gtbl := gt_t0 (List.mem_of_getElem? (i := 222) rfl) rfl
set_option maxRecDepth 20000 in
theorem wd_301 : (Jvm.Cond.code ({ cls := "FamineCode$Sheets", name := "<init>", desc := "()V" } : Jvm.MethodName) prog_6_method_1_code (1 : Nat) (Option.none : Option Jvm.ClassFile.FieldType)) ∈ gtbl := gt_t1 (List.mem_of_getElem? (i := 0) rfl) rfl
set_option maxRecDepth 20000 in
theorem wd_304 : (Jvm.Cond.static ({ cls := "java/util/Arrays", name := "fill", desc := "([II)V" } : Jvm.MethodName)) ∈ gtbl := gt_t1 (List.mem_of_getElem? (i := 3) rfl) rfl
set_option maxRecDepth 20000 in
theorem wd_305 : (Jvm.Cond.code ({ cls := "java/util/Arrays", name := "fill", desc := "([II)V" } : Jvm.MethodName) prog_16_method_103_code (4 : Nat) (Option.none : Option Jvm.ClassFile.FieldType)) ∈ gtbl := gt_t1 (List.mem_of_getElem? (i := 4) rfl) rfl
set_option maxRecDepth 20000 in
theorem wd_306 : (Jvm.Cond.fieldLink "FamineCode$Sheets" (9 : Nat) "FamineCode$Sheets" "sort" "[I") ∈ gtbl := gt_t1 (List.mem_of_getElem? (i := 5) rfl) rfl
set_option maxRecDepth 20000 in
theorem wd_307 : (Jvm.Cond.fieldLink "FamineCode$Sheets" (15 : Nat) "FamineCode$Sheets" "length" "[I") ∈ gtbl := gt_t1 (List.mem_of_getElem? (i := 6) rfl) rfl
set_option maxRecDepth 20000 in
theorem wd_308 : (Jvm.Cond.fieldLink "FamineCode$Sheets" (18 : Nat) "FamineCode$Sheets" "numbers" "[I") ∈ gtbl := gt_t1 (List.mem_of_getElem? (i := 7) rfl) rfl
set_option maxRecDepth 20000 in
theorem wd_316 : (Jvm.Cond.fieldLink "FamineCode" (10 : Nat) "FamineCode" "now" "LFamineCode$State;") ∈ gtbl := gt_t1 (List.mem_of_getElem? (i := 15) rfl) rfl
set_option maxRecDepth 20000 in
theorem wd_317 : (Jvm.Cond.fieldLink "FamineCode" (16 : Nat) "FamineCode" "kept" "LFamineCode$State;") ∈ gtbl := gt_t1 (List.mem_of_getElem? (i := 16) rfl) rfl
set_option maxRecDepth 20000 in
theorem wd_318 : (Jvm.Cond.fieldLink "FamineCode" (22 : Nat) "FamineCode" "dreamt" "LFamineCode$Land;") ∈ gtbl := gt_t1 (List.mem_of_getElem? (i := 17) rfl) rfl
set_option maxRecDepth 20000 in
theorem wd_319 : (Jvm.Cond.fieldLink "FamineCode" (29 : Nat) "FamineCode" "carts" "LFamineCode$Carts;") ∈ gtbl := gt_t1 (List.mem_of_getElem? (i := 18) rfl) rfl
set_option maxRecDepth 20000 in
theorem wd_320 : (Jvm.Cond.fieldLink "FamineCode" (36 : Nat) "FamineCode" "acts" "LFamineCode$Acts;") ∈ gtbl := gt_t1 (List.mem_of_getElem? (i := 19) rfl) rfl
set_option maxRecDepth 20000 in
theorem wd_321 : (Jvm.Cond.fieldLink "FamineCode" (43 : Nat) "FamineCode" "sheets" "LFamineCode$Sheets;") ∈ gtbl := gt_t1 (List.mem_of_getElem? (i := 20) rfl) rfl
set_option maxRecDepth 20000 in
theorem wd_322 : (Jvm.Cond.fieldLink "FamineCode" (167 : Nat) "FamineCode" "hasKept" "Z") ∈ gtbl := gt_t1 (List.mem_of_getElem? (i := 21) rfl) rfl
set_option maxRecDepth 20000 in
theorem wd_323 : (Jvm.Cond.fieldLink "FamineCode" (171 : Nat) "FamineCode" "backs" "I") ∈ gtbl := gt_t1 (List.mem_of_getElem? (i := 22) rfl) rfl
set_option maxRecDepth 20000 in
theorem wd_324 : (Jvm.Cond.fieldLink "FamineCode" (276 : Nat) "FamineCode" "latest" "I") ∈ gtbl := gt_t1 (List.mem_of_getElem? (i := 23) rfl) rfl
set_option maxRecDepth 20000 in
theorem wd_344 : (Jvm.Cond.methodLink "FamineCodeLaw" (13 : Nat) ({ cls := "FamineCode", name := "district", desc := "(II)I" } : Jvm.MethodName)) ∈ gtbl := gt_t1 (List.mem_of_getElem? (i := 43) rfl) rfl
set_option maxRecDepth 20000 in
theorem wd_345 : (Jvm.Cond.instanceMethod ({ cls := "FamineCode", name := "district", desc := "(II)I" } : Jvm.MethodName)) ∈ gtbl := gt_t1 (List.mem_of_getElem? (i := 44) rfl) rfl
set_option maxRecDepth 20000 in
theorem wd_346 : (Jvm.Cond.selects "FamineCode" ({ cls := "FamineCode", name := "district", desc := "(II)I" } : Jvm.MethodName) ({ cls := "FamineCode", name := "district", desc := "(II)I" } : Jvm.MethodName)) ∈ gtbl := gt_t1 (List.mem_of_getElem? (i := 45) rfl) rfl
set_option maxRecDepth 20000 in
theorem wd_347 : (Jvm.Cond.code ({ cls := "FamineCode", name := "district", desc := "(II)I" } : Jvm.MethodName) prog_1_method_2_code (3 : Nat) (Option.some Jvm.ClassFile.FieldType.int)) ∈ gtbl := gt_t1 (List.mem_of_getElem? (i := 46) rfl) rfl
set_option maxRecDepth 20000 in
theorem wd_348 : (Jvm.Cond.constant "FamineCode" (47 : Nat) (99999 : Int32)) ∈ gtbl := gt_t1 (List.mem_of_getElem? (i := 47) rfl) rfl
set_option maxRecDepth 20000 in
theorem wd_349 : (Jvm.Cond.methodLink "FamineCode" (48 : Nat) ({ cls := "FamineCode", name := "within", desc := "(III)Z" } : Jvm.MethodName)) ∈ gtbl := gt_t1 (List.mem_of_getElem? (i := 48) rfl) rfl
set_option maxRecDepth 20000 in
theorem wd_350 : (Jvm.Cond.static ({ cls := "FamineCode", name := "within", desc := "(III)Z" } : Jvm.MethodName)) ∈ gtbl := gt_t1 (List.mem_of_getElem? (i := 49) rfl) rfl
set_option maxRecDepth 20000 in
theorem wd_351 : (Jvm.Cond.code ({ cls := "FamineCode", name := "within", desc := "(III)Z" } : Jvm.MethodName) prog_1_method_52_code (3 : Nat) (Option.some Jvm.ClassFile.FieldType.boolean)) ∈ gtbl := gt_t1 (List.mem_of_getElem? (i := 50) rfl) rfl
set_option maxRecDepth 20000 in
theorem wd_352 : (Jvm.Cond.methodLink "FamineCode" (52 : Nat) ({ cls := "FamineCode", name := "refuse", desc := "(I)I" } : Jvm.MethodName)) ∈ gtbl := gt_t1 (List.mem_of_getElem? (i := 51) rfl) rfl
set_option maxRecDepth 20000 in
theorem wd_354 : (Jvm.Cond.instanceMethod ({ cls := "FamineCode", name := "refuse", desc := "(I)I" } : Jvm.MethodName)) ∈ gtbl := gt_t1 (List.mem_of_getElem? (i := 53) rfl) rfl
set_option maxRecDepth 20000 in
theorem wd_355 : (Jvm.Cond.code ({ cls := "FamineCode", name := "refuse", desc := "(I)I" } : Jvm.MethodName) prog_1_method_40_code (2 : Nat) (Option.some Jvm.ClassFile.FieldType.int)) ∈ gtbl := gt_t1 (List.mem_of_getElem? (i := 54) rfl) rfl
set_option maxRecDepth 20000 in
theorem wd_356 : (Jvm.Cond.methodLink "FamineCode" (63 : Nat) ({ cls := "FamineCode$Land", name := "add", desc := "(II)I" } : Jvm.MethodName)) ∈ gtbl := gt_t1 (List.mem_of_getElem? (i := 55) rfl) rfl
set_option maxRecDepth 20000 in
theorem wd_357 : (Jvm.Cond.instanceMethod ({ cls := "FamineCode$Land", name := "add", desc := "(II)I" } : Jvm.MethodName)) ∈ gtbl := gt_t1 (List.mem_of_getElem? (i := 56) rfl) rfl
set_option maxRecDepth 20000 in
theorem wd_358 : (Jvm.Cond.selects "FamineCode$Land" ({ cls := "FamineCode$Land", name := "add", desc := "(II)I" } : Jvm.MethodName) ({ cls := "FamineCode$Land", name := "add", desc := "(II)I" } : Jvm.MethodName)) ∈ gtbl := gt_t1 (List.mem_of_getElem? (i := 57) rfl) rfl
set_option maxRecDepth 20000 in
theorem wd_359 : (Jvm.Cond.code ({ cls := "FamineCode$Land", name := "add", desc := "(II)I" } : Jvm.MethodName) prog_5_method_3_code (5 : Nat) (Option.some Jvm.ClassFile.FieldType.int)) ∈ gtbl := gt_t1 (List.mem_of_getElem? (i := 58) rfl) rfl
set_option maxRecDepth 20000 in
theorem wd_360 : (Jvm.Cond.methodLink "FamineCode$Land" (37 : Nat) ({ cls := "FamineCode$Land", name := "put", desc := "(III)I" } : Jvm.MethodName)) ∈ gtbl := gt_t1 (List.mem_of_getElem? (i := 59) rfl) rfl
set_option maxRecDepth 20000 in
theorem wd_361 : (Jvm.Cond.instanceMethod ({ cls := "FamineCode$Land", name := "put", desc := "(III)I" } : Jvm.MethodName)) ∈ gtbl := gt_t1 (List.mem_of_getElem? (i := 60) rfl) rfl
set_option maxRecDepth 20000 in
theorem wd_362 : (Jvm.Cond.selects "FamineCode$Land" ({ cls := "FamineCode$Land", name := "put", desc := "(III)I" } : Jvm.MethodName) ({ cls := "FamineCode$Land", name := "put", desc := "(III)I" } : Jvm.MethodName)) ∈ gtbl := gt_t1 (List.mem_of_getElem? (i := 61) rfl) rfl
set_option maxRecDepth 20000 in
theorem wd_363 : (Jvm.Cond.code ({ cls := "FamineCode$Land", name := "put", desc := "(III)I" } : Jvm.MethodName) prog_5_method_5_code (5 : Nat) (Option.some Jvm.ClassFile.FieldType.int)) ∈ gtbl := gt_t1 (List.mem_of_getElem? (i := 62) rfl) rfl
set_option maxRecDepth 20000 in
theorem wd_364 : (Jvm.Cond.methodLink "FamineCode$Land" (41 : Nat) ({ cls := "FamineCode$Land", name := "get", desc := "(II)I" } : Jvm.MethodName)) ∈ gtbl := gt_t1 (List.mem_of_getElem? (i := 63) rfl) rfl
set_option maxRecDepth 20000 in
theorem wd_365 : (Jvm.Cond.instanceMethod ({ cls := "FamineCode$Land", name := "get", desc := "(II)I" } : Jvm.MethodName)) ∈ gtbl := gt_t1 (List.mem_of_getElem? (i := 64) rfl) rfl
set_option maxRecDepth 20000 in
theorem wd_366 : (Jvm.Cond.selects "FamineCode$Land" ({ cls := "FamineCode$Land", name := "get", desc := "(II)I" } : Jvm.MethodName) ({ cls := "FamineCode$Land", name := "get", desc := "(II)I" } : Jvm.MethodName)) ∈ gtbl := gt_t1 (List.mem_of_getElem? (i := 65) rfl) rfl
set_option maxRecDepth 20000 in
theorem wd_367 : (Jvm.Cond.code ({ cls := "FamineCode$Land", name := "get", desc := "(II)I" } : Jvm.MethodName) prog_5_method_4_code (3 : Nat) (Option.some Jvm.ClassFile.FieldType.int)) ∈ gtbl := gt_t1 (List.mem_of_getElem? (i := 66) rfl) rfl
set_option maxRecDepth 20000 in
theorem wd_368 : (Jvm.Cond.methodLink "FamineCode" (67 : Nat) ({ cls := "FamineCode", name := "done", desc := "(I)I" } : Jvm.MethodName)) ∈ gtbl := gt_t1 (List.mem_of_getElem? (i := 67) rfl) rfl
set_option maxRecDepth 20000 in
theorem wd_370 : (Jvm.Cond.instanceMethod ({ cls := "FamineCode", name := "done", desc := "(I)I" } : Jvm.MethodName)) ∈ gtbl := gt_t1 (List.mem_of_getElem? (i := 69) rfl) rfl
set_option maxRecDepth 20000 in
theorem wd_371 : (Jvm.Cond.code ({ cls := "FamineCode", name := "done", desc := "(I)I" } : Jvm.MethodName) prog_1_method_39_code (2 : Nat) (Option.some Jvm.ClassFile.FieldType.int)) ∈ gtbl := gt_t1 (List.mem_of_getElem? (i := 70) rfl) rfl
set_option maxRecDepth 20000 in
theorem wd_372 : (Jvm.Cond.methodLink "FamineCodeLaw" (18 : Nat) ({ cls := "FamineCode", name := "people", desc := "(III)I" } : Jvm.MethodName)) ∈ gtbl := gt_t1 (List.mem_of_getElem? (i := 71) rfl) rfl
set_option maxRecDepth 20000 in
theorem wd_373 : (Jvm.Cond.instanceMethod ({ cls := "FamineCode", name := "people", desc := "(III)I" } : Jvm.MethodName)) ∈ gtbl := gt_t1 (List.mem_of_getElem? (i := 72) rfl) rfl
set_option maxRecDepth 20000 in
theorem wd_374 : (Jvm.Cond.selects "FamineCode" ({ cls := "FamineCode", name := "people", desc := "(III)I" } : Jvm.MethodName) ({ cls := "FamineCode", name := "people", desc := "(III)I" } : Jvm.MethodName)) ∈ gtbl := gt_t1 (List.mem_of_getElem? (i := 73) rfl) rfl
set_option maxRecDepth 20000 in
theorem wd_375 : (Jvm.Cond.code ({ cls := "FamineCode", name := "people", desc := "(III)I" } : Jvm.MethodName) prog_1_method_3_code (4 : Nat) (Option.some Jvm.ClassFile.FieldType.int)) ∈ gtbl := gt_t1 (List.mem_of_getElem? (i := 74) rfl) rfl
set_option maxRecDepth 20000 in
theorem wd_376 : (Jvm.Cond.methodLink "FamineCode" (70 : Nat) ({ cls := "FamineCode", name := "isDistrict", desc := "(I)Z" } : Jvm.MethodName)) ∈ gtbl := gt_t1 (List.mem_of_getElem? (i := 75) rfl) rfl
set_option maxRecDepth 20000 in
theorem wd_378 : (Jvm.Cond.instanceMethod ({ cls := "FamineCode", name := "isDistrict", desc := "(I)Z" } : Jvm.MethodName)) ∈ gtbl := gt_t1 (List.mem_of_getElem? (i := 77) rfl) rfl
set_option maxRecDepth 20000 in
theorem wd_379 : (Jvm.Cond.code ({ cls := "FamineCode", name := "isDistrict", desc := "(I)Z" } : Jvm.MethodName) prog_1_method_41_code (2 : Nat) (Option.some Jvm.ClassFile.FieldType.boolean)) ∈ gtbl := gt_t1 (List.mem_of_getElem? (i := 78) rfl) rfl
set_option maxRecDepth 20000 in
theorem wd_380 : (Jvm.Cond.methodLink "FamineCode" (74 : Nat) ({ cls := "FamineCode", name := "isClass", desc := "(I)Z" } : Jvm.MethodName)) ∈ gtbl := gt_t1 (List.mem_of_getElem? (i := 79) rfl) rfl
set_option maxRecDepth 20000 in
theorem wd_381 : (Jvm.Cond.static ({ cls := "FamineCode", name := "isClass", desc := "(I)Z" } : Jvm.MethodName)) ∈ gtbl := gt_t1 (List.mem_of_getElem? (i := 80) rfl) rfl
set_option maxRecDepth 20000 in
theorem wd_382 : (Jvm.Cond.code ({ cls := "FamineCode", name := "isClass", desc := "(I)Z" } : Jvm.MethodName) prog_1_method_44_code (1 : Nat) (Option.some Jvm.ClassFile.FieldType.boolean)) ∈ gtbl := gt_t1 (List.mem_of_getElem? (i := 81) rfl) rfl
set_option maxRecDepth 20000 in
theorem wd_383 : (Jvm.Cond.methodLink "FamineCode" (77 : Nat) ({ cls := "FamineCode$Land", name := "put", desc := "(III)I" } : Jvm.MethodName)) ∈ gtbl := gt_t1 (List.mem_of_getElem? (i := 82) rfl) rfl
set_option maxRecDepth 20000 in
theorem wd_384 : (Jvm.Cond.methodLink "FamineCodeLaw" (23 : Nat) ({ cls := "FamineCode", name := "coins", desc := "(III)I" } : Jvm.MethodName)) ∈ gtbl := gt_t1 (List.mem_of_getElem? (i := 83) rfl) rfl
set_option maxRecDepth 20000 in
theorem wd_385 : (Jvm.Cond.instanceMethod ({ cls := "FamineCode", name := "coins", desc := "(III)I" } : Jvm.MethodName)) ∈ gtbl := gt_t1 (List.mem_of_getElem? (i := 84) rfl) rfl
set_option maxRecDepth 20000 in
theorem wd_386 : (Jvm.Cond.selects "FamineCode" ({ cls := "FamineCode", name := "coins", desc := "(III)I" } : Jvm.MethodName) ({ cls := "FamineCode", name := "coins", desc := "(III)I" } : Jvm.MethodName)) ∈ gtbl := gt_t1 (List.mem_of_getElem? (i := 85) rfl) rfl
set_option maxRecDepth 20000 in
theorem wd_387 : (Jvm.Cond.code ({ cls := "FamineCode", name := "coins", desc := "(III)I" } : Jvm.MethodName) prog_1_method_4_code (4 : Nat) (Option.some Jvm.ClassFile.FieldType.int)) ∈ gtbl := gt_t1 (List.mem_of_getElem? (i := 86) rfl) rfl
set_option maxRecDepth 20000 in
theorem wd_388 : (Jvm.Cond.methodLink "FamineCodeLaw" (27 : Nat) ({ cls := "FamineCode", name := "price", desc := "(II)I" } : Jvm.MethodName)) ∈ gtbl := gt_t1 (List.mem_of_getElem? (i := 87) rfl) rfl
set_option maxRecDepth 20000 in
theorem wd_389 : (Jvm.Cond.instanceMethod ({ cls := "FamineCode", name := "price", desc := "(II)I" } : Jvm.MethodName)) ∈ gtbl := gt_t1 (List.mem_of_getElem? (i := 88) rfl) rfl
set_option maxRecDepth 20000 in
theorem wd_390 : (Jvm.Cond.selects "FamineCode" ({ cls := "FamineCode", name := "price", desc := "(II)I" } : Jvm.MethodName) ({ cls := "FamineCode", name := "price", desc := "(II)I" } : Jvm.MethodName)) ∈ gtbl := gt_t1 (List.mem_of_getElem? (i := 89) rfl) rfl
set_option maxRecDepth 20000 in
theorem wd_391 : (Jvm.Cond.code ({ cls := "FamineCode", name := "price", desc := "(II)I" } : Jvm.MethodName) prog_1_method_5_code (3 : Nat) (Option.some Jvm.ClassFile.FieldType.int)) ∈ gtbl := gt_t1 (List.mem_of_getElem? (i := 90) rfl) rfl
set_option maxRecDepth 20000 in
theorem wd_392 : (Jvm.Cond.methodLink "FamineCodeLaw" (31 : Nat) ({ cls := "FamineCode", name := "wage", desc := "(I)I" } : Jvm.MethodName)) ∈ gtbl := gt_t1 (List.mem_of_getElem? (i := 91) rfl) rfl
set_option maxRecDepth 20000 in
theorem wd_393 : (Jvm.Cond.instanceMethod ({ cls := "FamineCode", name := "wage", desc := "(I)I" } : Jvm.MethodName)) ∈ gtbl := gt_t1 (List.mem_of_getElem? (i := 92) rfl) rfl
set_option maxRecDepth 20000 in
theorem wd_394 : (Jvm.Cond.selects "FamineCode" ({ cls := "FamineCode", name := "wage", desc := "(I)I" } : Jvm.MethodName) ({ cls := "FamineCode", name := "wage", desc := "(I)I" } : Jvm.MethodName)) ∈ gtbl := gt_t1 (List.mem_of_getElem? (i := 93) rfl) rfl
set_option maxRecDepth 20000 in
theorem wd_395 : (Jvm.Cond.code ({ cls := "FamineCode", name := "wage", desc := "(I)I" } : Jvm.MethodName) prog_1_method_6_code (3 : Nat) (Option.some Jvm.ClassFile.FieldType.int)) ∈ gtbl := gt_t1 (List.mem_of_getElem? (i := 94) rfl) rfl
set_option maxRecDepth 20000 in
theorem wd_396 : (Jvm.Cond.methodLink "FamineCodeLaw" (36 : Nat) ({ cls := "FamineCode", name := "sign", desc := "(IIII)I" } : Jvm.MethodName)) ∈ gtbl := gt_t1 (List.mem_of_getElem? (i := 95) rfl) rfl
set_option maxRecDepth 20000 in
theorem wd_397 : (Jvm.Cond.instanceMethod ({ cls := "FamineCode", name := "sign", desc := "(IIII)I" } : Jvm.MethodName)) ∈ gtbl := gt_t1 (List.mem_of_getElem? (i := 96) rfl) rfl
set_option maxRecDepth 20000 in
theorem wd_398 : (Jvm.Cond.selects "FamineCode" ({ cls := "FamineCode", name := "sign", desc := "(IIII)I" } : Jvm.MethodName) ({ cls := "FamineCode", name := "sign", desc := "(IIII)I" } : Jvm.MethodName)) ∈ gtbl := gt_t1 (List.mem_of_getElem? (i := 97) rfl) rfl
set_option maxRecDepth 20000 in
theorem wd_399 : (Jvm.Cond.code ({ cls := "FamineCode", name := "sign", desc := "(IIII)I" } : Jvm.MethodName) prog_1_method_7_code (6 : Nat) (Option.some Jvm.ClassFile.FieldType.int)) ∈ gtbl := gt_t1 (List.mem_of_getElem? (i := 98) rfl) rfl
set_option maxRecDepth 20000 in
theorem wd_400 : (Jvm.Cond.methodLink "FamineCode" (84 : Nat) ({ cls := "FamineCode", name := "isSort", desc := "(I)Z" } : Jvm.MethodName)) ∈ gtbl := gt_t1 (List.mem_of_getElem? (i := 99) rfl) rfl
set_option maxRecDepth 20000 in
theorem wd_401 : (Jvm.Cond.static ({ cls := "FamineCode", name := "isSort", desc := "(I)Z" } : Jvm.MethodName)) ∈ gtbl := gt_t1 (List.mem_of_getElem? (i := 100) rfl) rfl
set_option maxRecDepth 20000 in
theorem wd_402 : (Jvm.Cond.code ({ cls := "FamineCode", name := "isSort", desc := "(I)Z" } : Jvm.MethodName) prog_1_method_45_code (1 : Nat) (Option.some Jvm.ClassFile.FieldType.boolean)) ∈ gtbl := gt_t1 (List.mem_of_getElem? (i := 101) rfl) rfl
set_option maxRecDepth 20000 in
theorem wd_403 : (Jvm.Cond.methodLink "FamineCode" (97 : Nat) ({ cls := "FamineCode$Signs", name := "place", desc := "(III)I" } : Jvm.MethodName)) ∈ gtbl := gt_t1 (List.mem_of_getElem? (i := 102) rfl) rfl
set_option maxRecDepth 20000 in
theorem wd_404 : (Jvm.Cond.static ({ cls := "FamineCode$Signs", name := "place", desc := "(III)I" } : Jvm.MethodName)) ∈ gtbl := gt_t1 (List.mem_of_getElem? (i := 103) rfl) rfl
set_option maxRecDepth 20000 in
theorem wd_405 : (Jvm.Cond.code ({ cls := "FamineCode$Signs", name := "place", desc := "(III)I" } : Jvm.MethodName) prog_7_method_3_code (3 : Nat) (Option.some Jvm.ClassFile.FieldType.int)) ∈ gtbl := gt_t1 (List.mem_of_getElem? (i := 104) rfl) rfl
set_option maxRecDepth 20000 in
theorem wd_406 : (Jvm.Cond.methodLink "FamineCode" (100 : Nat) ({ cls := "FamineCode$Signs", name := "add", desc := "(III)I" } : Jvm.MethodName)) ∈ gtbl := gt_t1 (List.mem_of_getElem? (i := 105) rfl) rfl
set_option maxRecDepth 20000 in
theorem wd_407 : (Jvm.Cond.instanceMethod ({ cls := "FamineCode$Signs", name := "add", desc := "(III)I" } : Jvm.MethodName)) ∈ gtbl := gt_t1 (List.mem_of_getElem? (i := 106) rfl) rfl
set_option maxRecDepth 20000 in
theorem wd_408 : (Jvm.Cond.selects "FamineCode$Signs" ({ cls := "FamineCode$Signs", name := "add", desc := "(III)I" } : Jvm.MethodName) ({ cls := "FamineCode$Signs", name := "add", desc := "(III)I" } : Jvm.MethodName)) ∈ gtbl := gt_t1 (List.mem_of_getElem? (i := 107) rfl) rfl
set_option maxRecDepth 20000 in
theorem wd_409 : (Jvm.Cond.code ({ cls := "FamineCode$Signs", name := "add", desc := "(III)I" } : Jvm.MethodName) prog_7_method_4_code (4 : Nat) (Option.some Jvm.ClassFile.FieldType.int)) ∈ gtbl := gt_t1 (List.mem_of_getElem? (i := 108) rfl) rfl
set_option maxRecDepth 20000 in
theorem wd_410 : (Jvm.Cond.methodLink "FamineCodeLaw" (41 : Nat) ({ cls := "FamineCode", name := "line", desc := "(IIIZI)I" } : Jvm.MethodName)) ∈ gtbl := gt_t1 (List.mem_of_getElem? (i := 109) rfl) rfl
set_option maxRecDepth 20000 in
theorem wd_411 : (Jvm.Cond.instanceMethod ({ cls := "FamineCode", name := "line", desc := "(IIIZI)I" } : Jvm.MethodName)) ∈ gtbl := gt_t1 (List.mem_of_getElem? (i := 110) rfl) rfl
set_option maxRecDepth 20000 in
theorem wd_412 : (Jvm.Cond.selects "FamineCode" ({ cls := "FamineCode", name := "line", desc := "(IIIZI)I" } : Jvm.MethodName) ({ cls := "FamineCode", name := "line", desc := "(IIIZI)I" } : Jvm.MethodName)) ∈ gtbl := gt_t1 (List.mem_of_getElem? (i := 111) rfl) rfl
set_option maxRecDepth 20000 in
theorem wd_413 : (Jvm.Cond.code ({ cls := "FamineCode", name := "line", desc := "(IIIZI)I" } : Jvm.MethodName) prog_1_method_8_code (8 : Nat) (Option.some Jvm.ClassFile.FieldType.int)) ∈ gtbl := gt_t1 (List.mem_of_getElem? (i := 112) rfl) rfl
set_option maxRecDepth 20000 in
theorem wd_414 : (Jvm.Cond.methodLink "FamineCode" (102 : Nat) ({ cls := "FamineCode", name := "isLine", desc := "(I)Z" } : Jvm.MethodName)) ∈ gtbl := gt_t1 (List.mem_of_getElem? (i := 113) rfl) rfl
set_option maxRecDepth 20000 in
theorem wd_416 : (Jvm.Cond.instanceMethod ({ cls := "FamineCode", name := "isLine", desc := "(I)Z" } : Jvm.MethodName)) ∈ gtbl := gt_t1 (List.mem_of_getElem? (i := 115) rfl) rfl
set_option maxRecDepth 20000 in
theorem wd_417 : (Jvm.Cond.code ({ cls := "FamineCode", name := "isLine", desc := "(I)Z" } : Jvm.MethodName) prog_1_method_42_code (2 : Nat) (Option.some Jvm.ClassFile.FieldType.boolean)) ∈ gtbl := gt_t1 (List.mem_of_getElem? (i := 116) rfl) rfl
set_option maxRecDepth 20000 in
theorem wd_418 : (Jvm.Cond.methodLink "FamineCode" (105 : Nat) ({ cls := "FamineCode", name := "isKind", desc := "(I)Z" } : Jvm.MethodName)) ∈ gtbl := gt_t1 (List.mem_of_getElem? (i := 117) rfl) rfl
set_option maxRecDepth 20000 in
theorem wd_419 : (Jvm.Cond.static ({ cls := "FamineCode", name := "isKind", desc := "(I)Z" } : Jvm.MethodName)) ∈ gtbl := gt_t1 (List.mem_of_getElem? (i := 118) rfl) rfl
set_option maxRecDepth 20000 in
theorem wd_420 : (Jvm.Cond.code ({ cls := "FamineCode", name := "isKind", desc := "(I)Z" } : Jvm.MethodName) prog_1_method_46_code (1 : Nat) (Option.some Jvm.ClassFile.FieldType.boolean)) ∈ gtbl := gt_t1 (List.mem_of_getElem? (i := 119) rfl) rfl
set_option maxRecDepth 20000 in
theorem wd_421 : (Jvm.Cond.methodLink "FamineCode" (108 : Nat) ({ cls := "FamineCode", name := "isTest", desc := "(I)Z" } : Jvm.MethodName)) ∈ gtbl := gt_t1 (List.mem_of_getElem? (i := 120) rfl) rfl
set_option maxRecDepth 20000 in
theorem wd_422 : (Jvm.Cond.static ({ cls := "FamineCode", name := "isTest", desc := "(I)Z" } : Jvm.MethodName)) ∈ gtbl := gt_t1 (List.mem_of_getElem? (i := 121) rfl) rfl
set_option maxRecDepth 20000 in
theorem wd_423 : (Jvm.Cond.code ({ cls := "FamineCode", name := "isTest", desc := "(I)Z" } : Jvm.MethodName) prog_1_method_48_code (1 : Nat) (Option.some Jvm.ClassFile.FieldType.boolean)) ∈ gtbl := gt_t1 (List.mem_of_getElem? (i := 122) rfl) rfl
set_option maxRecDepth 20000 in
theorem wd_424 : (Jvm.Cond.methodLink "FamineCode" (285 : Nat) ({ cls := "FamineCode$Code", name := "spanIn", desc := "(I)I" } : Jvm.MethodName)) ∈ gtbl := gt_t1 (List.mem_of_getElem? (i := 123) rfl) rfl
set_option maxRecDepth 20000 in
theorem wd_425 : (Jvm.Cond.static ({ cls := "FamineCode$Code", name := "spanIn", desc := "(I)I" } : Jvm.MethodName)) ∈ gtbl := gt_t1 (List.mem_of_getElem? (i := 124) rfl) rfl
set_option maxRecDepth 20000 in
theorem wd_426 : (Jvm.Cond.code ({ cls := "FamineCode$Code", name := "spanIn", desc := "(I)I" } : Jvm.MethodName) prog_4_method_3_code (1 : Nat) (Option.some Jvm.ClassFile.FieldType.int)) ∈ gtbl := gt_t1 (List.mem_of_getElem? (i := 125) rfl) rfl
set_option maxRecDepth 20000 in
theorem wd_427 : (Jvm.Cond.methodLink "FamineCode" (118 : Nat) ({ cls := "FamineCode$Code", name := "add", desc := "(IIII)I" } : Jvm.MethodName)) ∈ gtbl := gt_t1 (List.mem_of_getElem? (i := 126) rfl) rfl
set_option maxRecDepth 20000 in
theorem wd_428 : (Jvm.Cond.instanceMethod ({ cls := "FamineCode$Code", name := "add", desc := "(IIII)I" } : Jvm.MethodName)) ∈ gtbl := gt_t1 (List.mem_of_getElem? (i := 127) rfl) rfl
set_option maxRecDepth 20000 in
theorem wd_429 : (Jvm.Cond.selects "FamineCode$Code" ({ cls := "FamineCode$Code", name := "add", desc := "(IIII)I" } : Jvm.MethodName) ({ cls := "FamineCode$Code", name := "add", desc := "(IIII)I" } : Jvm.MethodName)) ∈ gtbl := gt_t1 (List.mem_of_getElem? (i := 128) rfl) rfl
set_option maxRecDepth 20000 in
theorem wd_430 : (Jvm.Cond.code ({ cls := "FamineCode$Code", name := "add", desc := "(IIII)I" } : Jvm.MethodName) prog_4_method_4_code (6 : Nat) (Option.some Jvm.ClassFile.FieldType.int)) ∈ gtbl := gt_t1 (List.mem_of_getElem? (i := 129) rfl) rfl
set_option maxRecDepth 20000 in
theorem wd_431 : (Jvm.Cond.methodLink "FamineCode$Code" (25 : Nat) ({ cls := "FamineCode$Code", name := "put", desc := "(III)V" } : Jvm.MethodName)) ∈ gtbl := gt_t1 (List.mem_of_getElem? (i := 130) rfl) rfl
set_option maxRecDepth 20000 in
theorem wd_432 : (Jvm.Cond.instanceMethod ({ cls := "FamineCode$Code", name := "put", desc := "(III)V" } : Jvm.MethodName)) ∈ gtbl := gt_t1 (List.mem_of_getElem? (i := 131) rfl) rfl
set_option maxRecDepth 20000 in
theorem wd_433 : (Jvm.Cond.selects "FamineCode$Code" ({ cls := "FamineCode$Code", name := "put", desc := "(III)V" } : Jvm.MethodName) ({ cls := "FamineCode$Code", name := "put", desc := "(III)V" } : Jvm.MethodName)) ∈ gtbl := gt_t1 (List.mem_of_getElem? (i := 132) rfl) rfl
set_option maxRecDepth 20000 in
theorem wd_434 : (Jvm.Cond.code ({ cls := "FamineCode$Code", name := "put", desc := "(III)V" } : Jvm.MethodName) prog_4_method_6_code (4 : Nat) (Option.none : Option Jvm.ClassFile.FieldType)) ∈ gtbl := gt_t1 (List.mem_of_getElem? (i := 133) rfl) rfl
set_option maxRecDepth 20000 in
theorem wd_435 : (Jvm.Cond.methodLink "FamineCode$Code" (29 : Nat) ({ cls := "FamineCode$Code", name := "spanIn", desc := "(I)I" } : Jvm.MethodName)) ∈ gtbl := gt_t1 (List.mem_of_getElem? (i := 134) rfl) rfl
set_option maxRecDepth 20000 in
theorem wd_436 : (Jvm.Cond.methodLink "FamineCode" (121 : Nat) ({ cls := "FamineCode$Code", name := "put", desc := "(III)V" } : Jvm.MethodName)) ∈ gtbl := gt_t1 (List.mem_of_getElem? (i := 135) rfl) rfl
set_option maxRecDepth 20000 in
theorem wd_437 : (Jvm.Cond.methodLink "FamineCodeLaw" (46 : Nat) ({ cls := "FamineCode", name := "end", desc := "(I)I" } : Jvm.MethodName)) ∈ gtbl := gt_t1 (List.mem_of_getElem? (i := 136) rfl) rfl
set_option maxRecDepth 20000 in
theorem wd_438 : (Jvm.Cond.instanceMethod ({ cls := "FamineCode", name := "end", desc := "(I)I" } : Jvm.MethodName)) ∈ gtbl := gt_t1 (List.mem_of_getElem? (i := 137) rfl) rfl
set_option maxRecDepth 20000 in
theorem wd_439 : (Jvm.Cond.selects "FamineCode" ({ cls := "FamineCode", name := "end", desc := "(I)I" } : Jvm.MethodName) ({ cls := "FamineCode", name := "end", desc := "(I)I" } : Jvm.MethodName)) ∈ gtbl := gt_t1 (List.mem_of_getElem? (i := 138) rfl) rfl
set_option maxRecDepth 20000 in
theorem wd_440 : (Jvm.Cond.code ({ cls := "FamineCode", name := "end", desc := "(I)I" } : Jvm.MethodName) prog_1_method_9_code (2 : Nat) (Option.some Jvm.ClassFile.FieldType.int)) ∈ gtbl := gt_t1 (List.mem_of_getElem? (i := 139) rfl) rfl
set_option maxRecDepth 20000 in
theorem wd_441 : (Jvm.Cond.methodLink "FamineCode" (124 : Nat) ({ cls := "FamineCode$Code", name := "get", desc := "(II)I" } : Jvm.MethodName)) ∈ gtbl := gt_t1 (List.mem_of_getElem? (i := 140) rfl) rfl
set_option maxRecDepth 20000 in
theorem wd_442 : (Jvm.Cond.instanceMethod ({ cls := "FamineCode$Code", name := "get", desc := "(II)I" } : Jvm.MethodName)) ∈ gtbl := gt_t1 (List.mem_of_getElem? (i := 141) rfl) rfl
set_option maxRecDepth 20000 in
theorem wd_443 : (Jvm.Cond.selects "FamineCode$Code" ({ cls := "FamineCode$Code", name := "get", desc := "(II)I" } : Jvm.MethodName) ({ cls := "FamineCode$Code", name := "get", desc := "(II)I" } : Jvm.MethodName)) ∈ gtbl := gt_t1 (List.mem_of_getElem? (i := 142) rfl) rfl
set_option maxRecDepth 20000 in
theorem wd_444 : (Jvm.Cond.code ({ cls := "FamineCode$Code", name := "get", desc := "(II)I" } : Jvm.MethodName) prog_4_method_5_code (3 : Nat) (Option.some Jvm.ClassFile.FieldType.int)) ∈ gtbl := gt_t1 (List.mem_of_getElem? (i := 143) rfl) rfl
set_option maxRecDepth 20000 in
theorem wd_445 : (Jvm.Cond.methodLink "FamineCodeLaw" (50 : Nat) ({ cls := "FamineCode", name := "week", desc := "()I" } : Jvm.MethodName)) ∈ gtbl := gt_t1 (List.mem_of_getElem? (i := 144) rfl) rfl
set_option maxRecDepth 20000 in
theorem wd_446 : (Jvm.Cond.instanceMethod ({ cls := "FamineCode", name := "week", desc := "()I" } : Jvm.MethodName)) ∈ gtbl := gt_t1 (List.mem_of_getElem? (i := 145) rfl) rfl
set_option maxRecDepth 20000 in
theorem wd_447 : (Jvm.Cond.selects "FamineCode" ({ cls := "FamineCode", name := "week", desc := "()I" } : Jvm.MethodName) ({ cls := "FamineCode", name := "week", desc := "()I" } : Jvm.MethodName)) ∈ gtbl := gt_t1 (List.mem_of_getElem? (i := 146) rfl) rfl
set_option maxRecDepth 20000 in
theorem wd_448 : (Jvm.Cond.code ({ cls := "FamineCode", name := "week", desc := "()I" } : Jvm.MethodName) prog_1_method_10_code (1 : Nat) (Option.some Jvm.ClassFile.FieldType.int)) ∈ gtbl := gt_t1 (List.mem_of_getElem? (i := 147) rfl) rfl
set_option maxRecDepth 20000 in
theorem wd_449 : (Jvm.Cond.methodLink "FamineCode" (127 : Nat) ({ cls := "FamineCode$State", name := "passWeek", desc := "()I" } : Jvm.MethodName)) ∈ gtbl := gt_t1 (List.mem_of_getElem? (i := 148) rfl) rfl
set_option maxRecDepth 20000 in
theorem wd_450 : (Jvm.Cond.instanceMethod ({ cls := "FamineCode$State", name := "passWeek", desc := "()I" } : Jvm.MethodName)) ∈ gtbl := gt_t1 (List.mem_of_getElem? (i := 149) rfl) rfl
set_option maxRecDepth 20000 in
theorem wd_451 : (Jvm.Cond.selects "FamineCode$State" ({ cls := "FamineCode$State", name := "passWeek", desc := "()I" } : Jvm.MethodName) ({ cls := "FamineCode$State", name := "passWeek", desc := "()I" } : Jvm.MethodName)) ∈ gtbl := gt_t1 (List.mem_of_getElem? (i := 150) rfl) rfl
set_option maxRecDepth 20000 in
theorem wd_452 : (Jvm.Cond.code ({ cls := "FamineCode$State", name := "passWeek", desc := "()I" } : Jvm.MethodName) prog_8_method_3_code (5 : Nat) (Option.some Jvm.ClassFile.FieldType.int)) ∈ gtbl := gt_t1 (List.mem_of_getElem? (i := 151) rfl) rfl
set_option maxRecDepth 20000 in
theorem wd_453 : (Jvm.Cond.methodLink "FamineCode$State" (76 : Nat) ({ cls := "FamineCode$Code", name := "inForce", desc := "(I)I" } : Jvm.MethodName)) ∈ gtbl := gt_t1 (List.mem_of_getElem? (i := 152) rfl) rfl
set_option maxRecDepth 20000 in
theorem wd_454 : (Jvm.Cond.instanceMethod ({ cls := "FamineCode$Code", name := "inForce", desc := "(I)I" } : Jvm.MethodName)) ∈ gtbl := gt_t1 (List.mem_of_getElem? (i := 153) rfl) rfl
set_option maxRecDepth 20000 in
theorem wd_455 : (Jvm.Cond.selects "FamineCode$Code" ({ cls := "FamineCode$Code", name := "inForce", desc := "(I)I" } : Jvm.MethodName) ({ cls := "FamineCode$Code", name := "inForce", desc := "(I)I" } : Jvm.MethodName)) ∈ gtbl := gt_t1 (List.mem_of_getElem? (i := 154) rfl) rfl
set_option maxRecDepth 20000 in
theorem wd_456 : (Jvm.Cond.code ({ cls := "FamineCode$Code", name := "inForce", desc := "(I)I" } : Jvm.MethodName) prog_4_method_7_code (5 : Nat) (Option.some Jvm.ClassFile.FieldType.int)) ∈ gtbl := gt_t1 (List.mem_of_getElem? (i := 155) rfl) rfl
set_option maxRecDepth 20000 in
theorem wd_457 : (Jvm.Cond.methodLink "FamineCode$Code" (33 : Nat) ({ cls := "FamineCode$Code", name := "get", desc := "(II)I" } : Jvm.MethodName)) ∈ gtbl := gt_t1 (List.mem_of_getElem? (i := 156) rfl) rfl
set_option maxRecDepth 20000 in
theorem wd_458 : (Jvm.Cond.methodLink "FamineCode$State" (83 : Nat) ({ cls := "FamineCode$Code", name := "holding", desc := "(LFamineCode$Signs;III)I" } : Jvm.MethodName)) ∈ gtbl := gt_t1 (List.mem_of_getElem? (i := 157) rfl) rfl
set_option maxRecDepth 20000 in
theorem wd_459 : (Jvm.Cond.instanceMethod ({ cls := "FamineCode$Code", name := "holding", desc := "(LFamineCode$Signs;III)I" } : Jvm.MethodName)) ∈ gtbl := gt_t1 (List.mem_of_getElem? (i := 158) rfl) rfl
set_option maxRecDepth 20000 in
theorem wd_460 : (Jvm.Cond.selects "FamineCode$Code" ({ cls := "FamineCode$Code", name := "holding", desc := "(LFamineCode$Signs;III)I" } : Jvm.MethodName) ({ cls := "FamineCode$Code", name := "holding", desc := "(LFamineCode$Signs;III)I" } : Jvm.MethodName)) ∈ gtbl := gt_t1 (List.mem_of_getElem? (i := 159) rfl) rfl
set_option maxRecDepth 20000 in
theorem wd_461 : (Jvm.Cond.code ({ cls := "FamineCode$Code", name := "holding", desc := "(LFamineCode$Signs;III)I" } : Jvm.MethodName) prog_4_method_8_code (9 : Nat) (Option.some Jvm.ClassFile.FieldType.int)) ∈ gtbl := gt_t1 (List.mem_of_getElem? (i := 160) rfl) rfl
set_option maxRecDepth 20000 in
theorem wd_462 : (Jvm.Cond.methodLink "FamineCode$Code" (37 : Nat) ({ cls := "FamineCode$Code", name := "passes", desc := "(ILFamineCode$Signs;III)Z" } : Jvm.MethodName)) ∈ gtbl := gt_t1 (List.mem_of_getElem? (i := 161) rfl) rfl
set_option maxRecDepth 20000 in
theorem wd_463 : (Jvm.Cond.instanceMethod ({ cls := "FamineCode$Code", name := "passes", desc := "(ILFamineCode$Signs;III)Z" } : Jvm.MethodName)) ∈ gtbl := gt_t1 (List.mem_of_getElem? (i := 162) rfl) rfl
set_option maxRecDepth 20000 in
theorem wd_464 : (Jvm.Cond.selects "FamineCode$Code" ({ cls := "FamineCode$Code", name := "passes", desc := "(ILFamineCode$Signs;III)Z" } : Jvm.MethodName) ({ cls := "FamineCode$Code", name := "passes", desc := "(ILFamineCode$Signs;III)Z" } : Jvm.MethodName)) ∈ gtbl := gt_t1 (List.mem_of_getElem? (i := 163) rfl) rfl
set_option maxRecDepth 20000 in
theorem wd_465 : (Jvm.Cond.code ({ cls := "FamineCode$Code", name := "passes", desc := "(ILFamineCode$Signs;III)Z" } : Jvm.MethodName) prog_4_method_9_code (12 : Nat) (Option.some Jvm.ClassFile.FieldType.boolean)) ∈ gtbl := gt_t1 (List.mem_of_getElem? (i := 164) rfl) rfl
set_option maxRecDepth 20000 in
theorem wd_466 : (Jvm.Cond.methodLink "FamineCode$Code" (41 : Nat) ({ cls := "FamineCode$Signs", name := "asKnown", desc := "(IIII)I" } : Jvm.MethodName)) ∈ gtbl := gt_t1 (List.mem_of_getElem? (i := 165) rfl) rfl
set_option maxRecDepth 20000 in
theorem wd_467 : (Jvm.Cond.instanceMethod ({ cls := "FamineCode$Signs", name := "asKnown", desc := "(IIII)I" } : Jvm.MethodName)) ∈ gtbl := gt_t1 (List.mem_of_getElem? (i := 166) rfl) rfl
set_option maxRecDepth 20000 in
theorem wd_468 : (Jvm.Cond.selects "FamineCode$Signs" ({ cls := "FamineCode$Signs", name := "asKnown", desc := "(IIII)I" } : Jvm.MethodName) ({ cls := "FamineCode$Signs", name := "asKnown", desc := "(IIII)I" } : Jvm.MethodName)) ∈ gtbl := gt_t1 (List.mem_of_getElem? (i := 167) rfl) rfl
set_option maxRecDepth 20000 in
theorem wd_469 : (Jvm.Cond.code ({ cls := "FamineCode$Signs", name := "asKnown", desc := "(IIII)I" } : Jvm.MethodName) prog_7_method_5_code (7 : Nat) (Option.some Jvm.ClassFile.FieldType.int)) ∈ gtbl := gt_t1 (List.mem_of_getElem? (i := 168) rfl) rfl
set_option maxRecDepth 20000 in
theorem wd_470 : (Jvm.Cond.methodLink "FamineCode$Signs" (34 : Nat) ({ cls := "FamineCode$Signs", name := "place", desc := "(III)I" } : Jvm.MethodName)) ∈ gtbl := gt_t1 (List.mem_of_getElem? (i := 169) rfl) rfl
set_option maxRecDepth 20000 in
theorem wd_471 : (Jvm.Cond.methodLink "FamineCode$State" (87 : Nat) ({ cls := "FamineCode$Code", name := "kindsOf", desc := "(I)I" } : Jvm.MethodName)) ∈ gtbl := gt_t1 (List.mem_of_getElem? (i := 170) rfl) rfl
set_option maxRecDepth 20000 in
theorem wd_472 : (Jvm.Cond.instanceMethod ({ cls := "FamineCode$Code", name := "kindsOf", desc := "(I)I" } : Jvm.MethodName)) ∈ gtbl := gt_t1 (List.mem_of_getElem? (i := 171) rfl) rfl
set_option maxRecDepth 20000 in
theorem wd_473 : (Jvm.Cond.selects "FamineCode$Code" ({ cls := "FamineCode$Code", name := "kindsOf", desc := "(I)I" } : Jvm.MethodName) ({ cls := "FamineCode$Code", name := "kindsOf", desc := "(I)I" } : Jvm.MethodName)) ∈ gtbl := gt_t1 (List.mem_of_getElem? (i := 172) rfl) rfl
set_option maxRecDepth 20000 in
theorem wd_474 : (Jvm.Cond.code ({ cls := "FamineCode$Code", name := "kindsOf", desc := "(I)I" } : Jvm.MethodName) prog_4_method_10_code (4 : Nat) (Option.some Jvm.ClassFile.FieldType.int)) ∈ gtbl := gt_t1 (List.mem_of_getElem? (i := 173) rfl) rfl
set_option maxRecDepth 20000 in
theorem wd_475 : (Jvm.Cond.methodLink "FamineCode$State" (90 : Nat) ({ cls := "FamineCode$Land", name := "pass", desc := "(II)I" } : Jvm.MethodName)) ∈ gtbl := gt_t1 (List.mem_of_getElem? (i := 174) rfl) rfl
set_option maxRecDepth 20000 in
theorem wd_476 : (Jvm.Cond.instanceMethod ({ cls := "FamineCode$Land", name := "pass", desc := "(II)I" } : Jvm.MethodName)) ∈ gtbl := gt_t1 (List.mem_of_getElem? (i := 175) rfl) rfl
set_option maxRecDepth 20000 in
theorem wd_477 : (Jvm.Cond.selects "FamineCode$Land" ({ cls := "FamineCode$Land", name := "pass", desc := "(II)I" } : Jvm.MethodName) ({ cls := "FamineCode$Land", name := "pass", desc := "(II)I" } : Jvm.MethodName)) ∈ gtbl := gt_t1 (List.mem_of_getElem? (i := 176) rfl) rfl
set_option maxRecDepth 20000 in
theorem wd_478 : (Jvm.Cond.code ({ cls := "FamineCode$Land", name := "pass", desc := "(II)I" } : Jvm.MethodName) prog_5_method_9_code (7 : Nat) (Option.some Jvm.ClassFile.FieldType.int)) ∈ gtbl := gt_t1 (List.mem_of_getElem? (i := 177) rfl) rfl
set_option maxRecDepth 20000 in
theorem wd_479 : (Jvm.Cond.methodLink "FamineCode$Land" (49 : Nat) ({ cls := "FamineCode$Land", name := "isAmong", desc := "(II)Z" } : Jvm.MethodName)) ∈ gtbl := gt_t1 (List.mem_of_getElem? (i := 178) rfl) rfl
set_option maxRecDepth 20000 in
theorem wd_480 : (Jvm.Cond.static ({ cls := "FamineCode$Land", name := "isAmong", desc := "(II)Z" } : Jvm.MethodName)) ∈ gtbl := gt_t1 (List.mem_of_getElem? (i := 179) rfl) rfl
set_option maxRecDepth 20000 in
theorem wd_481 : (Jvm.Cond.code ({ cls := "FamineCode$Land", name := "isAmong", desc := "(II)Z" } : Jvm.MethodName) prog_5_method_16_code (2 : Nat) (Option.some Jvm.ClassFile.FieldType.boolean)) ∈ gtbl := gt_t1 (List.mem_of_getElem? (i := 180) rfl) rfl
set_option maxRecDepth 20000 in
theorem wd_482 : (Jvm.Cond.methodLink "FamineCode$Land" (53 : Nat) ({ cls := "FamineCode$Land", name := "eatForNothing", desc := "(I)I" } : Jvm.MethodName)) ∈ gtbl := gt_t1 (List.mem_of_getElem? (i := 181) rfl) rfl
set_option maxRecDepth 20000 in
theorem wd_483 : (Jvm.Cond.instanceMethod ({ cls := "FamineCode$Land", name := "eatForNothing", desc := "(I)I" } : Jvm.MethodName)) ∈ gtbl := gt_t1 (List.mem_of_getElem? (i := 182) rfl) rfl
set_option maxRecDepth 20000 in
theorem wd_484 : (Jvm.Cond.selects "FamineCode$Land" ({ cls := "FamineCode$Land", name := "eatForNothing", desc := "(I)I" } : Jvm.MethodName) ({ cls := "FamineCode$Land", name := "eatForNothing", desc := "(I)I" } : Jvm.MethodName)) ∈ gtbl := gt_t1 (List.mem_of_getElem? (i := 183) rfl) rfl
set_option maxRecDepth 20000 in
theorem wd_485 : (Jvm.Cond.code ({ cls := "FamineCode$Land", name := "eatForNothing", desc := "(I)I" } : Jvm.MethodName) prog_5_method_10_code (3 : Nat) (Option.some Jvm.ClassFile.FieldType.int)) ∈ gtbl := gt_t1 (List.mem_of_getElem? (i := 184) rfl) rfl
set_option maxRecDepth 20000 in
theorem wd_486 : (Jvm.Cond.methodLink "FamineCode$Land" (69 : Nat) ({ cls := "java/lang/Math", name := "min", desc := "(II)I" } : Jvm.MethodName)) ∈ gtbl := gt_t1 (List.mem_of_getElem? (i := 185) rfl) rfl
set_option maxRecDepth 20000 in
theorem wd_487 : (Jvm.Cond.static ({ cls := "java/lang/Math", name := "min", desc := "(II)I" } : Jvm.MethodName)) ∈ gtbl := gt_t1 (List.mem_of_getElem? (i := 186) rfl) rfl
set_option maxRecDepth 20000 in
theorem wd_488 : (Jvm.Cond.code ({ cls := "java/lang/Math", name := "min", desc := "(II)I" } : Jvm.MethodName) prog_14_method_69_code (2 : Nat) (Option.some Jvm.ClassFile.FieldType.int)) ∈ gtbl := gt_t1 (List.mem_of_getElem? (i := 187) rfl) rfl
set_option maxRecDepth 20000 in
theorem wd_489 : (Jvm.Cond.methodLink "FamineCode$Land" (74 : Nat) ({ cls := "FamineCode$Land", name := "more", desc := "(III)V" } : Jvm.MethodName)) ∈ gtbl := gt_t1 (List.mem_of_getElem? (i := 188) rfl) rfl
set_option maxRecDepth 20000 in
theorem wd_490 : (Jvm.Cond.instanceMethod ({ cls := "FamineCode$Land", name := "more", desc := "(III)V" } : Jvm.MethodName)) ∈ gtbl := gt_t1 (List.mem_of_getElem? (i := 189) rfl) rfl
set_option maxRecDepth 20000 in
theorem wd_491 : (Jvm.Cond.selects "FamineCode$Land" ({ cls := "FamineCode$Land", name := "more", desc := "(III)V" } : Jvm.MethodName) ({ cls := "FamineCode$Land", name := "more", desc := "(III)V" } : Jvm.MethodName)) ∈ gtbl := gt_t1 (List.mem_of_getElem? (i := 190) rfl) rfl
set_option maxRecDepth 20000 in
theorem wd_492 : (Jvm.Cond.code ({ cls := "FamineCode$Land", name := "more", desc := "(III)V" } : Jvm.MethodName) prog_5_method_6_code (4 : Nat) (Option.none : Option Jvm.ClassFile.FieldType)) ∈ gtbl := gt_t1 (List.mem_of_getElem? (i := 191) rfl) rfl
set_option maxRecDepth 20000 in
theorem wd_493 : (Jvm.Cond.methodLink "FamineCode$Land" (56 : Nat) ({ cls := "FamineCode$Land", name := "pay", desc := "(II)V" } : Jvm.MethodName)) ∈ gtbl := gt_t1 (List.mem_of_getElem? (i := 192) rfl) rfl
set_option maxRecDepth 20000 in
theorem wd_494 : (Jvm.Cond.instanceMethod ({ cls := "FamineCode$Land", name := "pay", desc := "(II)V" } : Jvm.MethodName)) ∈ gtbl := gt_t1 (List.mem_of_getElem? (i := 193) rfl) rfl
set_option maxRecDepth 20000 in
theorem wd_495 : (Jvm.Cond.selects "FamineCode$Land" ({ cls := "FamineCode$Land", name := "pay", desc := "(II)V" } : Jvm.MethodName) ({ cls := "FamineCode$Land", name := "pay", desc := "(II)V" } : Jvm.MethodName)) ∈ gtbl := gt_t1 (List.mem_of_getElem? (i := 194) rfl) rfl
set_option maxRecDepth 20000 in
theorem wd_496 : (Jvm.Cond.code ({ cls := "FamineCode$Land", name := "pay", desc := "(II)V" } : Jvm.MethodName) prog_5_method_11_code (6 : Nat) (Option.none : Option Jvm.ClassFile.FieldType)) ∈ gtbl := gt_t1 (List.mem_of_getElem? (i := 195) rfl) rfl
set_option maxRecDepth 20000 in
theorem wd_497 : (Jvm.Cond.methodLink "FamineCode$Land" (78 : Nat) ({ cls := "FamineCode$Land", name := "receive", desc := "(III)V" } : Jvm.MethodName)) ∈ gtbl := gt_t1 (List.mem_of_getElem? (i := 196) rfl) rfl
set_option maxRecDepth 20000 in
theorem wd_498 : (Jvm.Cond.instanceMethod ({ cls := "FamineCode$Land", name := "receive", desc := "(III)V" } : Jvm.MethodName)) ∈ gtbl := gt_t1 (List.mem_of_getElem? (i := 197) rfl) rfl
set_option maxRecDepth 20000 in
theorem wd_499 : (Jvm.Cond.selects "FamineCode$Land" ({ cls := "FamineCode$Land", name := "receive", desc := "(III)V" } : Jvm.MethodName) ({ cls := "FamineCode$Land", name := "receive", desc := "(III)V" } : Jvm.MethodName)) ∈ gtbl := gt_t1 (List.mem_of_getElem? (i := 198) rfl) rfl
set_option maxRecDepth 20000 in
theorem wd_500 : (Jvm.Cond.code ({ cls := "FamineCode$Land", name := "receive", desc := "(III)V" } : Jvm.MethodName) prog_5_method_13_code (4 : Nat) (Option.none : Option Jvm.ClassFile.FieldType)) ∈ gtbl := gt_t1 (List.mem_of_getElem? (i := 199) rfl) rfl
set_option maxRecDepth 20000 in
theorem wd_501 : (Jvm.Cond.constant "FamineCode$Land" (81 : Nat) (99999 : Int32)) ∈ gtbl := gt_t1 (List.mem_of_getElem? (i := 200) rfl) rfl
set_option maxRecDepth 20000 in
theorem wd_502 : (Jvm.Cond.methodLink "FamineCode$Land" (60 : Nat) ({ cls := "FamineCode$Land", name := "lend", desc := "(II)V" } : Jvm.MethodName)) ∈ gtbl := gt_t1 (List.mem_of_getElem? (i := 201) rfl) rfl
set_option maxRecDepth 20000 in
theorem wd_503 : (Jvm.Cond.instanceMethod ({ cls := "FamineCode$Land", name := "lend", desc := "(II)V" } : Jvm.MethodName)) ∈ gtbl := gt_t1 (List.mem_of_getElem? (i := 202) rfl) rfl
set_option maxRecDepth 20000 in
theorem wd_504 : (Jvm.Cond.selects "FamineCode$Land" ({ cls := "FamineCode$Land", name := "lend", desc := "(II)V" } : Jvm.MethodName) ({ cls := "FamineCode$Land", name := "lend", desc := "(II)V" } : Jvm.MethodName)) ∈ gtbl := gt_t1 (List.mem_of_getElem? (i := 203) rfl) rfl
set_option maxRecDepth 20000 in
theorem wd_505 : (Jvm.Cond.code ({ cls := "FamineCode$Land", name := "lend", desc := "(II)V" } : Jvm.MethodName) prog_5_method_12_code (4 : Nat) (Option.none : Option Jvm.ClassFile.FieldType)) ∈ gtbl := gt_t1 (List.mem_of_getElem? (i := 204) rfl) rfl
set_option maxRecDepth 20000 in
theorem wd_506 : (Jvm.Cond.methodLink "FamineCode$Land" (63 : Nat) ({ cls := "FamineCode$Land", name := "buy", desc := "(III)I" } : Jvm.MethodName)) ∈ gtbl := gt_t1 (List.mem_of_getElem? (i := 205) rfl) rfl
set_option maxRecDepth 20000 in
theorem wd_507 : (Jvm.Cond.instanceMethod ({ cls := "FamineCode$Land", name := "buy", desc := "(III)I" } : Jvm.MethodName)) ∈ gtbl := gt_t1 (List.mem_of_getElem? (i := 206) rfl) rfl
set_option maxRecDepth 20000 in
theorem wd_508 : (Jvm.Cond.selects "FamineCode$Land" ({ cls := "FamineCode$Land", name := "buy", desc := "(III)I" } : Jvm.MethodName) ({ cls := "FamineCode$Land", name := "buy", desc := "(III)I" } : Jvm.MethodName)) ∈ gtbl := gt_t1 (List.mem_of_getElem? (i := 207) rfl) rfl
set_option maxRecDepth 20000 in
theorem wd_509 : (Jvm.Cond.code ({ cls := "FamineCode$Land", name := "buy", desc := "(III)I" } : Jvm.MethodName) prog_5_method_14_code (7 : Nat) (Option.some Jvm.ClassFile.FieldType.int)) ∈ gtbl := gt_t1 (List.mem_of_getElem? (i := 208) rfl) rfl
set_option maxRecDepth 20000 in
theorem wd_510 : (Jvm.Cond.methodLink "FamineCode$Land" (66 : Nat) ({ cls := "FamineCode$Land", name := "suffer", desc := "(III)I" } : Jvm.MethodName)) ∈ gtbl := gt_t1 (List.mem_of_getElem? (i := 209) rfl) rfl
set_option maxRecDepth 20000 in
theorem wd_511 : (Jvm.Cond.instanceMethod ({ cls := "FamineCode$Land", name := "suffer", desc := "(III)I" } : Jvm.MethodName)) ∈ gtbl := gt_t1 (List.mem_of_getElem? (i := 210) rfl) rfl
set_option maxRecDepth 20000 in
theorem wd_512 : (Jvm.Cond.selects "FamineCode$Land" ({ cls := "FamineCode$Land", name := "suffer", desc := "(III)I" } : Jvm.MethodName) ({ cls := "FamineCode$Land", name := "suffer", desc := "(III)I" } : Jvm.MethodName)) ∈ gtbl := gt_t1 (List.mem_of_getElem? (i := 211) rfl) rfl
set_option maxRecDepth 20000 in
theorem wd_513 : (Jvm.Cond.code ({ cls := "FamineCode$Land", name := "suffer", desc := "(III)I" } : Jvm.MethodName) prog_5_method_15_code (5 : Nat) (Option.some Jvm.ClassFile.FieldType.int)) ∈ gtbl := gt_t1 (List.mem_of_getElem? (i := 212) rfl) rfl
set_option maxRecDepth 20000 in
theorem wd_514 : (Jvm.Cond.methodLink "FamineCodeLaw" (55 : Nat) ({ cls := "FamineCode", name := "way", desc := "(IIII)I" } : Jvm.MethodName)) ∈ gtbl := gt_t1 (List.mem_of_getElem? (i := 213) rfl) rfl
set_option maxRecDepth 20000 in
theorem wd_515 : (Jvm.Cond.instanceMethod ({ cls := "FamineCode", name := "way", desc := "(IIII)I" } : Jvm.MethodName)) ∈ gtbl := gt_t1 (List.mem_of_getElem? (i := 214) rfl) rfl
set_option maxRecDepth 20000 in
theorem wd_516 : (Jvm.Cond.selects "FamineCode" ({ cls := "FamineCode", name := "way", desc := "(IIII)I" } : Jvm.MethodName) ({ cls := "FamineCode", name := "way", desc := "(IIII)I" } : Jvm.MethodName)) ∈ gtbl := gt_t1 (List.mem_of_getElem? (i := 215) rfl) rfl
set_option maxRecDepth 20000 in
theorem wd_517 : (Jvm.Cond.code ({ cls := "FamineCode", name := "way", desc := "(IIII)I" } : Jvm.MethodName) prog_1_method_11_code (6 : Nat) (Option.some Jvm.ClassFile.FieldType.int)) ∈ gtbl := gt_t1 (List.mem_of_getElem? (i := 216) rfl) rfl
set_option maxRecDepth 20000 in
theorem wd_518 : (Jvm.Cond.methodLink "FamineCode" (138 : Nat) ({ cls := "FamineCode$Ways", name := "add", desc := "(IIII)I" } : Jvm.MethodName)) ∈ gtbl := gt_t1 (List.mem_of_getElem? (i := 217) rfl) rfl
set_option maxRecDepth 20000 in
theorem wd_519 : (Jvm.Cond.instanceMethod ({ cls := "FamineCode$Ways", name := "add", desc := "(IIII)I" } : Jvm.MethodName)) ∈ gtbl := gt_t1 (List.mem_of_getElem? (i := 218) rfl) rfl
set_option maxRecDepth 20000 in
theorem wd_520 : (Jvm.Cond.selects "FamineCode$Ways" ({ cls := "FamineCode$Ways", name := "add", desc := "(IIII)I" } : Jvm.MethodName) ({ cls := "FamineCode$Ways", name := "add", desc := "(IIII)I" } : Jvm.MethodName)) ∈ gtbl := gt_t1 (List.mem_of_getElem? (i := 219) rfl) rfl
set_option maxRecDepth 20000 in
theorem wd_521 : (Jvm.Cond.code ({ cls := "FamineCode$Ways", name := "add", desc := "(IIII)I" } : Jvm.MethodName) prog_9_method_3_code (5 : Nat) (Option.some Jvm.ClassFile.FieldType.int)) ∈ gtbl := gt_t1 (List.mem_of_getElem? (i := 220) rfl) rfl
set_option maxRecDepth 20000 in
theorem wd_522 : (Jvm.Cond.methodLink "FamineCodeLaw" (59 : Nat) ({ cls := "FamineCode", name := "work", desc := "(III)I" } : Jvm.MethodName)) ∈ gtbl := gt_t1 (List.mem_of_getElem? (i := 221) rfl) rfl
set_option maxRecDepth 20000 in
theorem wd_523 : (Jvm.Cond.instanceMethod ({ cls := "FamineCode", name := "work", desc := "(III)I" } : Jvm.MethodName)) ∈ gtbl := gt_t1 (List.mem_of_getElem? (i := 222) rfl) rfl
set_option maxRecDepth 20000 in
theorem wd_524 : (Jvm.Cond.selects "FamineCode" ({ cls := "FamineCode", name := "work", desc := "(III)I" } : Jvm.MethodName) ({ cls := "FamineCode", name := "work", desc := "(III)I" } : Jvm.MethodName)) ∈ gtbl := gt_t1 (List.mem_of_getElem? (i := 223) rfl) rfl
set_option maxRecDepth 20000 in
theorem wd_525 : (Jvm.Cond.code ({ cls := "FamineCode", name := "work", desc := "(III)I" } : Jvm.MethodName) prog_1_method_12_code (4 : Nat) (Option.some Jvm.ClassFile.FieldType.int)) ∈ gtbl := gt_t1 (List.mem_of_getElem? (i := 224) rfl) rfl
set_option maxRecDepth 20000 in
theorem wd_526 : (Jvm.Cond.methodLink "FamineCode" (146 : Nat) ({ cls := "FamineCode$Works", name := "add", desc := "(III)I" } : Jvm.MethodName)) ∈ gtbl := gt_t1 (List.mem_of_getElem? (i := 225) rfl) rfl
set_option maxRecDepth 20000 in
theorem wd_527 : (Jvm.Cond.instanceMethod ({ cls := "FamineCode$Works", name := "add", desc := "(III)I" } : Jvm.MethodName)) ∈ gtbl := gt_t1 (List.mem_of_getElem? (i := 226) rfl) rfl
set_option maxRecDepth 20000 in
theorem wd_528 : (Jvm.Cond.selects "FamineCode$Works" ({ cls := "FamineCode$Works", name := "add", desc := "(III)I" } : Jvm.MethodName) ({ cls := "FamineCode$Works", name := "add", desc := "(III)I" } : Jvm.MethodName)) ∈ gtbl := gt_t1 (List.mem_of_getElem? (i := 227) rfl) rfl
set_option maxRecDepth 20000 in
theorem wd_529 : (Jvm.Cond.code ({ cls := "FamineCode$Works", name := "add", desc := "(III)I" } : Jvm.MethodName) prog_10_method_3_code (4 : Nat) (Option.some Jvm.ClassFile.FieldType.int)) ∈ gtbl := gt_t1 (List.mem_of_getElem? (i := 228) rfl) rfl
set_option maxRecDepth 20000 in
theorem wd_530 : (Jvm.Cond.methodLink "FamineCodeLaw" (63 : Nat) ({ cls := "FamineCode", name := "bring", desc := "(III)I" } : Jvm.MethodName)) ∈ gtbl := gt_t1 (List.mem_of_getElem? (i := 229) rfl) rfl
set_option maxRecDepth 20000 in
theorem wd_531 : (Jvm.Cond.instanceMethod ({ cls := "FamineCode", name := "bring", desc := "(III)I" } : Jvm.MethodName)) ∈ gtbl := gt_t1 (List.mem_of_getElem? (i := 230) rfl) rfl
set_option maxRecDepth 20000 in
theorem wd_532 : (Jvm.Cond.selects "FamineCode" ({ cls := "FamineCode", name := "bring", desc := "(III)I" } : Jvm.MethodName) ({ cls := "FamineCode", name := "bring", desc := "(III)I" } : Jvm.MethodName)) ∈ gtbl := gt_t1 (List.mem_of_getElem? (i := 231) rfl) rfl
set_option maxRecDepth 20000 in
theorem wd_533 : (Jvm.Cond.code ({ cls := "FamineCode", name := "bring", desc := "(III)I" } : Jvm.MethodName) prog_1_method_13_code (4 : Nat) (Option.some Jvm.ClassFile.FieldType.int)) ∈ gtbl := gt_t1 (List.mem_of_getElem? (i := 232) rfl) rfl
set_option maxRecDepth 20000 in
theorem wd_534 : (Jvm.Cond.methodLink "FamineCode" (147 : Nat) ({ cls := "FamineCode", name := "canAskLoad", desc := "(III)Z" } : Jvm.MethodName)) ∈ gtbl := gt_t1 (List.mem_of_getElem? (i := 233) rfl) rfl
set_option maxRecDepth 20000 in
theorem wd_536 : (Jvm.Cond.instanceMethod ({ cls := "FamineCode", name := "canAskLoad", desc := "(III)Z" } : Jvm.MethodName)) ∈ gtbl := gt_t1 (List.mem_of_getElem? (i := 235) rfl) rfl
set_option maxRecDepth 20000 in
theorem wd_537 : (Jvm.Cond.code ({ cls := "FamineCode", name := "canAskLoad", desc := "(III)Z" } : Jvm.MethodName) prog_1_method_43_code (4 : Nat) (Option.some Jvm.ClassFile.FieldType.boolean)) ∈ gtbl := gt_t1 (List.mem_of_getElem? (i := 236) rfl) rfl
set_option maxRecDepth 20000 in
theorem wd_538 : (Jvm.Cond.methodLink "FamineCode" (150 : Nat) ({ cls := "FamineCode$Land", name := "get", desc := "(II)I" } : Jvm.MethodName)) ∈ gtbl := gt_t1 (List.mem_of_getElem? (i := 237) rfl) rfl
set_option maxRecDepth 20000 in
theorem wd_539 : (Jvm.Cond.methodLink "FamineCode" (151 : Nat) ({ cls := "FamineCode$Carts", name := "plan", desc := "(LFamineCode$Land;LFamineCode$Ways;III)Z" } : Jvm.MethodName)) ∈ gtbl := gt_t1 (List.mem_of_getElem? (i := 238) rfl) rfl
set_option maxRecDepth 20000 in
theorem wd_540 : (Jvm.Cond.instanceMethod ({ cls := "FamineCode$Carts", name := "plan", desc := "(LFamineCode$Land;LFamineCode$Ways;III)Z" } : Jvm.MethodName)) ∈ gtbl := gt_t1 (List.mem_of_getElem? (i := 239) rfl) rfl
set_option maxRecDepth 20000 in
theorem wd_541 : (Jvm.Cond.selects "FamineCode$Carts" ({ cls := "FamineCode$Carts", name := "plan", desc := "(LFamineCode$Land;LFamineCode$Ways;III)Z" } : Jvm.MethodName) ({ cls := "FamineCode$Carts", name := "plan", desc := "(LFamineCode$Land;LFamineCode$Ways;III)Z" } : Jvm.MethodName)) ∈ gtbl := gt_t2 (List.mem_of_getElem? (i := 0) rfl) rfl
set_option maxRecDepth 20000 in
theorem wd_542 : (Jvm.Cond.code ({ cls := "FamineCode$Carts", name := "plan", desc := "(LFamineCode$Land;LFamineCode$Ways;III)Z" } : Jvm.MethodName) prog_3_method_2_code (8 : Nat) (Option.some Jvm.ClassFile.FieldType.boolean)) ∈ gtbl := gt_t2 (List.mem_of_getElem? (i := 1) rfl) rfl
set_option maxRecDepth 20000 in
theorem wd_543 : (Jvm.Cond.methodLink "FamineCode$Carts" (34 : Nat) ({ cls := "java/util/Arrays", name := "fill", desc := "([II)V" } : Jvm.MethodName)) ∈ gtbl := gt_t2 (List.mem_of_getElem? (i := 2) rfl) rfl
set_option maxRecDepth 20000 in
theorem wd_544 : (Jvm.Cond.methodLink "FamineCode$Carts" (40 : Nat) ({ cls := "FamineCode$Carts", name := "layWays", desc := "(LFamineCode$Ways;)V" } : Jvm.MethodName)) ∈ gtbl := gt_t2 (List.mem_of_getElem? (i := 3) rfl) rfl
set_option maxRecDepth 20000 in
theorem wd_546 : (Jvm.Cond.instanceMethod ({ cls := "FamineCode$Carts", name := "layWays", desc := "(LFamineCode$Ways;)V" } : Jvm.MethodName)) ∈ gtbl := gt_t2 (List.mem_of_getElem? (i := 5) rfl) rfl
set_option maxRecDepth 20000 in
theorem wd_547 : (Jvm.Cond.code ({ cls := "FamineCode$Carts", name := "layWays", desc := "(LFamineCode$Ways;)V" } : Jvm.MethodName) prog_3_method_3_code (5 : Nat) (Option.none : Option Jvm.ClassFile.FieldType)) ∈ gtbl := gt_t2 (List.mem_of_getElem? (i := 6) rfl) rfl
set_option maxRecDepth 20000 in
theorem wd_548 : (Jvm.Cond.constantLong "FamineCode$Carts" (71 : Nat) (531441 : Int64)) ∈ gtbl := gt_t2 (List.mem_of_getElem? (i := 7) rfl) rfl
set_option maxRecDepth 20000 in
theorem wd_549 : (Jvm.Cond.fieldLink "FamineCode$Carts" (73 : Nat) "FamineCode$Carts" "POWERS_OF_3" "[J") ∈ gtbl := gt_t2 (List.mem_of_getElem? (i := 8) rfl) rfl
set_option maxRecDepth 20000 in
theorem wd_551 : (Jvm.Cond.methodLink "FamineCode$Carts" (82 : Nat) ({ cls := "FamineCode$Carts", name := "layEdge", desc := "(IIIJ)V" } : Jvm.MethodName)) ∈ gtbl := gt_t2 (List.mem_of_getElem? (i := 10) rfl) rfl
set_option maxRecDepth 20000 in
theorem wd_553 : (Jvm.Cond.instanceMethod ({ cls := "FamineCode$Carts", name := "layEdge", desc := "(IIIJ)V" } : Jvm.MethodName)) ∈ gtbl := gt_t2 (List.mem_of_getElem? (i := 12) rfl) rfl
set_option maxRecDepth 20000 in
theorem wd_554 : (Jvm.Cond.code ({ cls := "FamineCode$Carts", name := "layEdge", desc := "(IIIJ)V" } : Jvm.MethodName) prog_3_method_5_code (6 : Nat) (Option.none : Option Jvm.ClassFile.FieldType)) ∈ gtbl := gt_t2 (List.mem_of_getElem? (i := 13) rfl) rfl
set_option maxRecDepth 20000 in
theorem wd_555 : (Jvm.Cond.methodLink "FamineCode$Carts" (44 : Nat) ({ cls := "FamineCode$Carts", name := "layGiven", desc := "(LFamineCode$Land;II)V" } : Jvm.MethodName)) ∈ gtbl := gt_t2 (List.mem_of_getElem? (i := 14) rfl) rfl
set_option maxRecDepth 20000 in
theorem wd_557 : (Jvm.Cond.instanceMethod ({ cls := "FamineCode$Carts", name := "layGiven", desc := "(LFamineCode$Land;II)V" } : Jvm.MethodName)) ∈ gtbl := gt_t2 (List.mem_of_getElem? (i := 16) rfl) rfl
set_option maxRecDepth 20000 in
theorem wd_558 : (Jvm.Cond.code ({ cls := "FamineCode$Carts", name := "layGiven", desc := "(LFamineCode$Land;II)V" } : Jvm.MethodName) prog_3_method_4_code (5 : Nat) (Option.none : Option Jvm.ClassFile.FieldType)) ∈ gtbl := gt_t2 (List.mem_of_getElem? (i := 17) rfl) rfl
set_option maxRecDepth 20000 in
theorem wd_559 : (Jvm.Cond.methodLink "FamineCode$Carts" (92 : Nat) ({ cls := "FamineCode$Land", name := "get", desc := "(II)I" } : Jvm.MethodName)) ∈ gtbl := gt_t2 (List.mem_of_getElem? (i := 18) rfl) rfl
set_option maxRecDepth 20000 in
theorem wd_560 : (Jvm.Cond.methodLink "FamineCode$Carts" (95 : Nat) ({ cls := "java/lang/Math", name := "max", desc := "(II)I" } : Jvm.MethodName)) ∈ gtbl := gt_t2 (List.mem_of_getElem? (i := 19) rfl) rfl
set_option maxRecDepth 20000 in
theorem wd_561 : (Jvm.Cond.static ({ cls := "java/lang/Math", name := "max", desc := "(II)I" } : Jvm.MethodName)) ∈ gtbl := gt_t2 (List.mem_of_getElem? (i := 20) rfl) rfl
set_option maxRecDepth 20000 in
theorem wd_562 : (Jvm.Cond.code ({ cls := "java/lang/Math", name := "max", desc := "(II)I" } : Jvm.MethodName) prog_14_method_65_code (2 : Nat) (Option.some Jvm.ClassFile.FieldType.int)) ∈ gtbl := gt_t2 (List.mem_of_getElem? (i := 21) rfl) rfl
set_option maxRecDepth 20000 in
theorem wd_563 : (Jvm.Cond.methodLink "FamineCode$Carts" (48 : Nat) ({ cls := "FamineCode$Carts", name := "findPath", desc := "(I)Z" } : Jvm.MethodName)) ∈ gtbl := gt_t2 (List.mem_of_getElem? (i := 22) rfl) rfl
set_option maxRecDepth 20000 in
theorem wd_565 : (Jvm.Cond.instanceMethod ({ cls := "FamineCode$Carts", name := "findPath", desc := "(I)Z" } : Jvm.MethodName)) ∈ gtbl := gt_t2 (List.mem_of_getElem? (i := 24) rfl) rfl
set_option maxRecDepth 20000 in
theorem wd_566 : (Jvm.Cond.code ({ cls := "FamineCode$Carts", name := "findPath", desc := "(I)Z" } : Jvm.MethodName) prog_3_method_6_code (5 : Nat) (Option.some Jvm.ClassFile.FieldType.boolean)) ∈ gtbl := gt_t2 (List.mem_of_getElem? (i := 25) rfl) rfl
set_option maxRecDepth 20000 in
theorem wd_567 : (Jvm.Cond.constantLong "FamineCode$Carts" (100 : Nat) (1152921504606846976 : Int64)) ∈ gtbl := gt_t2 (List.mem_of_getElem? (i := 26) rfl) rfl
set_option maxRecDepth 20000 in
theorem wd_568 : (Jvm.Cond.methodLink "FamineCode$Carts" (102 : Nat) ({ cls := "java/util/Arrays", name := "fill", desc := "([JJ)V" } : Jvm.MethodName)) ∈ gtbl := gt_t2 (List.mem_of_getElem? (i := 27) rfl) rfl
set_option maxRecDepth 20000 in
theorem wd_569 : (Jvm.Cond.static ({ cls := "java/util/Arrays", name := "fill", desc := "([JJ)V" } : Jvm.MethodName)) ∈ gtbl := gt_t2 (List.mem_of_getElem? (i := 28) rfl) rfl
set_option maxRecDepth 20000 in
theorem wd_570 : (Jvm.Cond.code ({ cls := "java/util/Arrays", name := "fill", desc := "([JJ)V" } : Jvm.MethodName) prog_16_method_101_code (5 : Nat) (Option.none : Option Jvm.ClassFile.FieldType)) ∈ gtbl := gt_t2 (List.mem_of_getElem? (i := 29) rfl) rfl
set_option maxRecDepth 20000 in
theorem wd_571 : (Jvm.Cond.methodLink "FamineCode$Carts" (105 : Nat) ({ cls := "FamineCode$Carts", name := "comeNearer", desc := "(I)Z" } : Jvm.MethodName)) ∈ gtbl := gt_t2 (List.mem_of_getElem? (i := 30) rfl) rfl
set_option maxRecDepth 20000 in
theorem wd_573 : (Jvm.Cond.instanceMethod ({ cls := "FamineCode$Carts", name := "comeNearer", desc := "(I)Z" } : Jvm.MethodName)) ∈ gtbl := gt_t2 (List.mem_of_getElem? (i := 32) rfl) rfl
set_option maxRecDepth 20000 in
theorem wd_574 : (Jvm.Cond.code ({ cls := "FamineCode$Carts", name := "comeNearer", desc := "(I)Z" } : Jvm.MethodName) prog_3_method_7_code (4 : Nat) (Option.some Jvm.ClassFile.FieldType.boolean)) ∈ gtbl := gt_t2 (List.mem_of_getElem? (i := 33) rfl) rfl
set_option maxRecDepth 20000 in
theorem wd_575 : (Jvm.Cond.methodLink "FamineCode$Carts" (52 : Nat) ({ cls := "FamineCode$Carts", name := "sendAlong", desc := "(II)I" } : Jvm.MethodName)) ∈ gtbl := gt_t2 (List.mem_of_getElem? (i := 34) rfl) rfl
set_option maxRecDepth 20000 in
theorem wd_577 : (Jvm.Cond.instanceMethod ({ cls := "FamineCode$Carts", name := "sendAlong", desc := "(II)I" } : Jvm.MethodName)) ∈ gtbl := gt_t2 (List.mem_of_getElem? (i := 36) rfl) rfl
set_option maxRecDepth 20000 in
theorem wd_578 : (Jvm.Cond.code ({ cls := "FamineCode$Carts", name := "sendAlong", desc := "(II)I" } : Jvm.MethodName) prog_3_method_8_code (7 : Nat) (Option.some Jvm.ClassFile.FieldType.int)) ∈ gtbl := gt_t2 (List.mem_of_getElem? (i := 37) rfl) rfl
set_option maxRecDepth 20000 in
theorem wd_579 : (Jvm.Cond.methodLink "FamineCode$Carts" (108 : Nat) ({ cls := "java/lang/Math", name := "min", desc := "(II)I" } : Jvm.MethodName)) ∈ gtbl := gt_t2 (List.mem_of_getElem? (i := 38) rfl) rfl
set_option maxRecDepth 20000 in
theorem wd_580 : (Jvm.Cond.methodLink "FamineCode$Carts" (56 : Nat) ({ cls := "java/lang/System", name := "arraycopy", desc := "(Ljava/lang/Object;ILjava/lang/Object;II)V" } : Jvm.MethodName)) ∈ gtbl := gt_t2 (List.mem_of_getElem? (i := 39) rfl) rfl
set_option maxRecDepth 20000 in
theorem wd_581 : (Jvm.Cond.static ({ cls := "java/lang/System", name := "arraycopy", desc := "(Ljava/lang/Object;ILjava/lang/Object;II)V" } : Jvm.MethodName)) ∈ gtbl := gt_t2 (List.mem_of_getElem? (i := 40) rfl) rfl
set_option maxRecDepth 20000 in
theorem wd_582 : (Jvm.Cond.native ({ cls := "java/lang/System", name := "arraycopy", desc := "(Ljava/lang/Object;ILjava/lang/Object;II)V" } : Jvm.MethodName)) ∈ gtbl := gt_t2 (List.mem_of_getElem? (i := 41) rfl) rfl
set_option maxRecDepth 20000 in
theorem wd_583 : (Jvm.Cond.methodLink "FamineCode" (155 : Nat) ({ cls := "FamineCode$Carts", name := "drive", desc := "(LFamineCode$Land;LFamineCode$Ways;)V" } : Jvm.MethodName)) ∈ gtbl := gt_t2 (List.mem_of_getElem? (i := 42) rfl) rfl
set_option maxRecDepth 20000 in
theorem wd_584 : (Jvm.Cond.instanceMethod ({ cls := "FamineCode$Carts", name := "drive", desc := "(LFamineCode$Land;LFamineCode$Ways;)V" } : Jvm.MethodName)) ∈ gtbl := gt_t2 (List.mem_of_getElem? (i := 43) rfl) rfl
set_option maxRecDepth 20000 in
theorem wd_585 : (Jvm.Cond.selects "FamineCode$Carts" ({ cls := "FamineCode$Carts", name := "drive", desc := "(LFamineCode$Land;LFamineCode$Ways;)V" } : Jvm.MethodName) ({ cls := "FamineCode$Carts", name := "drive", desc := "(LFamineCode$Land;LFamineCode$Ways;)V" } : Jvm.MethodName)) ∈ gtbl := gt_t2 (List.mem_of_getElem? (i := 44) rfl) rfl
set_option maxRecDepth 20000 in
theorem wd_586 : (Jvm.Cond.code ({ cls := "FamineCode$Carts", name := "drive", desc := "(LFamineCode$Land;LFamineCode$Ways;)V" } : Jvm.MethodName) prog_3_method_10_code (4 : Nat) (Option.none : Option Jvm.ClassFile.FieldType)) ∈ gtbl := gt_t2 (List.mem_of_getElem? (i := 45) rfl) rfl
set_option maxRecDepth 20000 in
theorem wd_587 : (Jvm.Cond.methodLink "FamineCode$Carts" (111 : Nat) ({ cls := "FamineCode$Land", name := "more", desc := "(III)V" } : Jvm.MethodName)) ∈ gtbl := gt_t2 (List.mem_of_getElem? (i := 46) rfl) rfl
set_option maxRecDepth 20000 in
theorem wd_588 : (Jvm.Cond.methodLink "FamineCode" (159 : Nat) ({ cls := "FamineCode$Carts", name := "priceOf", desc := "(LFamineCode$Ways;)I" } : Jvm.MethodName)) ∈ gtbl := gt_t2 (List.mem_of_getElem? (i := 47) rfl) rfl
set_option maxRecDepth 20000 in
theorem wd_589 : (Jvm.Cond.instanceMethod ({ cls := "FamineCode$Carts", name := "priceOf", desc := "(LFamineCode$Ways;)I" } : Jvm.MethodName)) ∈ gtbl := gt_t2 (List.mem_of_getElem? (i := 48) rfl) rfl
set_option maxRecDepth 20000 in
theorem wd_590 : (Jvm.Cond.selects "FamineCode$Carts" ({ cls := "FamineCode$Carts", name := "priceOf", desc := "(LFamineCode$Ways;)I" } : Jvm.MethodName) ({ cls := "FamineCode$Carts", name := "priceOf", desc := "(LFamineCode$Ways;)I" } : Jvm.MethodName)) ∈ gtbl := gt_t2 (List.mem_of_getElem? (i := 49) rfl) rfl
set_option maxRecDepth 20000 in
theorem wd_591 : (Jvm.Cond.code ({ cls := "FamineCode$Carts", name := "priceOf", desc := "(LFamineCode$Ways;)I" } : Jvm.MethodName) prog_3_method_9_code (4 : Nat) (Option.some Jvm.ClassFile.FieldType.int)) ∈ gtbl := gt_t2 (List.mem_of_getElem? (i := 50) rfl) rfl
set_option maxRecDepth 20000 in
theorem wd_592 : (Jvm.Cond.methodLink "FamineCodeLaw" (67 : Nat) ({ cls := "FamineCode", name := "image", desc := "()I" } : Jvm.MethodName)) ∈ gtbl := gt_t2 (List.mem_of_getElem? (i := 51) rfl) rfl
set_option maxRecDepth 20000 in
theorem wd_593 : (Jvm.Cond.instanceMethod ({ cls := "FamineCode", name := "image", desc := "()I" } : Jvm.MethodName)) ∈ gtbl := gt_t2 (List.mem_of_getElem? (i := 52) rfl) rfl
set_option maxRecDepth 20000 in
theorem wd_594 : (Jvm.Cond.selects "FamineCode" ({ cls := "FamineCode", name := "image", desc := "()I" } : Jvm.MethodName) ({ cls := "FamineCode", name := "image", desc := "()I" } : Jvm.MethodName)) ∈ gtbl := gt_t2 (List.mem_of_getElem? (i := 53) rfl) rfl
set_option maxRecDepth 20000 in
theorem wd_595 : (Jvm.Cond.code ({ cls := "FamineCode", name := "image", desc := "()I" } : Jvm.MethodName) prog_1_method_14_code (1 : Nat) (Option.some Jvm.ClassFile.FieldType.int)) ∈ gtbl := gt_t2 (List.mem_of_getElem? (i := 54) rfl) rfl
set_option maxRecDepth 20000 in
theorem wd_596 : (Jvm.Cond.methodLink "FamineCode" (163 : Nat) ({ cls := "FamineCode$State", name := "copyFrom", desc := "(LFamineCode$State;)V" } : Jvm.MethodName)) ∈ gtbl := gt_t2 (List.mem_of_getElem? (i := 55) rfl) rfl
set_option maxRecDepth 20000 in
theorem wd_597 : (Jvm.Cond.instanceMethod ({ cls := "FamineCode$State", name := "copyFrom", desc := "(LFamineCode$State;)V" } : Jvm.MethodName)) ∈ gtbl := gt_t2 (List.mem_of_getElem? (i := 56) rfl) rfl
set_option maxRecDepth 20000 in
theorem wd_598 : (Jvm.Cond.selects "FamineCode$State" ({ cls := "FamineCode$State", name := "copyFrom", desc := "(LFamineCode$State;)V" } : Jvm.MethodName) ({ cls := "FamineCode$State", name := "copyFrom", desc := "(LFamineCode$State;)V" } : Jvm.MethodName)) ∈ gtbl := gt_t2 (List.mem_of_getElem? (i := 57) rfl) rfl
set_option maxRecDepth 20000 in
theorem wd_599 : (Jvm.Cond.code ({ cls := "FamineCode$State", name := "copyFrom", desc := "(LFamineCode$State;)V" } : Jvm.MethodName) prog_8_method_2_code (2 : Nat) (Option.none : Option Jvm.ClassFile.FieldType)) ∈ gtbl := gt_t2 (List.mem_of_getElem? (i := 58) rfl) rfl
set_option maxRecDepth 20000 in
theorem wd_600 : (Jvm.Cond.methodLink "FamineCode$State" (50 : Nat) ({ cls := "FamineCode$Land", name := "copyFrom", desc := "(LFamineCode$Land;)V" } : Jvm.MethodName)) ∈ gtbl := gt_t2 (List.mem_of_getElem? (i := 59) rfl) rfl
set_option maxRecDepth 20000 in
theorem wd_601 : (Jvm.Cond.instanceMethod ({ cls := "FamineCode$Land", name := "copyFrom", desc := "(LFamineCode$Land;)V" } : Jvm.MethodName)) ∈ gtbl := gt_t2 (List.mem_of_getElem? (i := 60) rfl) rfl
set_option maxRecDepth 20000 in
theorem wd_602 : (Jvm.Cond.selects "FamineCode$Land" ({ cls := "FamineCode$Land", name := "copyFrom", desc := "(LFamineCode$Land;)V" } : Jvm.MethodName) ({ cls := "FamineCode$Land", name := "copyFrom", desc := "(LFamineCode$Land;)V" } : Jvm.MethodName)) ∈ gtbl := gt_t2 (List.mem_of_getElem? (i := 61) rfl) rfl
set_option maxRecDepth 20000 in
theorem wd_603 : (Jvm.Cond.code ({ cls := "FamineCode$Land", name := "copyFrom", desc := "(LFamineCode$Land;)V" } : Jvm.MethodName) prog_5_method_2_code (2 : Nat) (Option.none : Option Jvm.ClassFile.FieldType)) ∈ gtbl := gt_t2 (List.mem_of_getElem? (i := 62) rfl) rfl
set_option maxRecDepth 20000 in
theorem wd_604 : (Jvm.Cond.methodLink "FamineCode$Land" (19 : Nat) ({ cls := "java/lang/System", name := "arraycopy", desc := "(Ljava/lang/Object;ILjava/lang/Object;II)V" } : Jvm.MethodName)) ∈ gtbl := gt_t2 (List.mem_of_getElem? (i := 63) rfl) rfl
set_option maxRecDepth 20000 in
theorem wd_605 : (Jvm.Cond.methodLink "FamineCode$State" (54 : Nat) ({ cls := "FamineCode$Signs", name := "copyFrom", desc := "(LFamineCode$Signs;)V" } : Jvm.MethodName)) ∈ gtbl := gt_t2 (List.mem_of_getElem? (i := 64) rfl) rfl
set_option maxRecDepth 20000 in
theorem wd_606 : (Jvm.Cond.instanceMethod ({ cls := "FamineCode$Signs", name := "copyFrom", desc := "(LFamineCode$Signs;)V" } : Jvm.MethodName)) ∈ gtbl := gt_t2 (List.mem_of_getElem? (i := 65) rfl) rfl
set_option maxRecDepth 20000 in
theorem wd_607 : (Jvm.Cond.selects "FamineCode$Signs" ({ cls := "FamineCode$Signs", name := "copyFrom", desc := "(LFamineCode$Signs;)V" } : Jvm.MethodName) ({ cls := "FamineCode$Signs", name := "copyFrom", desc := "(LFamineCode$Signs;)V" } : Jvm.MethodName)) ∈ gtbl := gt_t2 (List.mem_of_getElem? (i := 66) rfl) rfl
set_option maxRecDepth 20000 in
theorem wd_608 : (Jvm.Cond.code ({ cls := "FamineCode$Signs", name := "copyFrom", desc := "(LFamineCode$Signs;)V" } : Jvm.MethodName) prog_7_method_2_code (2 : Nat) (Option.none : Option Jvm.ClassFile.FieldType)) ∈ gtbl := gt_t2 (List.mem_of_getElem? (i := 67) rfl) rfl
set_option maxRecDepth 20000 in
theorem wd_609 : (Jvm.Cond.methodLink "FamineCode$Signs" (24 : Nat) ({ cls := "java/lang/System", name := "arraycopy", desc := "(Ljava/lang/Object;ILjava/lang/Object;II)V" } : Jvm.MethodName)) ∈ gtbl := gt_t2 (List.mem_of_getElem? (i := 68) rfl) rfl
set_option maxRecDepth 20000 in
theorem wd_610 : (Jvm.Cond.methodLink "FamineCode$State" (57 : Nat) ({ cls := "FamineCode$Code", name := "copyFrom", desc := "(LFamineCode$Code;)V" } : Jvm.MethodName)) ∈ gtbl := gt_t2 (List.mem_of_getElem? (i := 69) rfl) rfl
set_option maxRecDepth 20000 in
theorem wd_611 : (Jvm.Cond.instanceMethod ({ cls := "FamineCode$Code", name := "copyFrom", desc := "(LFamineCode$Code;)V" } : Jvm.MethodName)) ∈ gtbl := gt_t2 (List.mem_of_getElem? (i := 70) rfl) rfl
set_option maxRecDepth 20000 in
theorem wd_612 : (Jvm.Cond.selects "FamineCode$Code" ({ cls := "FamineCode$Code", name := "copyFrom", desc := "(LFamineCode$Code;)V" } : Jvm.MethodName) ({ cls := "FamineCode$Code", name := "copyFrom", desc := "(LFamineCode$Code;)V" } : Jvm.MethodName)) ∈ gtbl := gt_t2 (List.mem_of_getElem? (i := 71) rfl) rfl
set_option maxRecDepth 20000 in
theorem wd_613 : (Jvm.Cond.code ({ cls := "FamineCode$Code", name := "copyFrom", desc := "(LFamineCode$Code;)V" } : Jvm.MethodName) prog_4_method_2_code (2 : Nat) (Option.none : Option Jvm.ClassFile.FieldType)) ∈ gtbl := gt_t2 (List.mem_of_getElem? (i := 72) rfl) rfl
set_option maxRecDepth 20000 in
theorem wd_614 : (Jvm.Cond.methodLink "FamineCode$Code" (15 : Nat) ({ cls := "java/lang/System", name := "arraycopy", desc := "(Ljava/lang/Object;ILjava/lang/Object;II)V" } : Jvm.MethodName)) ∈ gtbl := gt_t2 (List.mem_of_getElem? (i := 73) rfl) rfl
set_option maxRecDepth 20000 in
theorem wd_615 : (Jvm.Cond.methodLink "FamineCode$State" (60 : Nat) ({ cls := "FamineCode$Ways", name := "copyFrom", desc := "(LFamineCode$Ways;)V" } : Jvm.MethodName)) ∈ gtbl := gt_t2 (List.mem_of_getElem? (i := 74) rfl) rfl
set_option maxRecDepth 20000 in
theorem wd_616 : (Jvm.Cond.instanceMethod ({ cls := "FamineCode$Ways", name := "copyFrom", desc := "(LFamineCode$Ways;)V" } : Jvm.MethodName)) ∈ gtbl := gt_t2 (List.mem_of_getElem? (i := 75) rfl) rfl
set_option maxRecDepth 20000 in
theorem wd_617 : (Jvm.Cond.selects "FamineCode$Ways" ({ cls := "FamineCode$Ways", name := "copyFrom", desc := "(LFamineCode$Ways;)V" } : Jvm.MethodName) ({ cls := "FamineCode$Ways", name := "copyFrom", desc := "(LFamineCode$Ways;)V" } : Jvm.MethodName)) ∈ gtbl := gt_t2 (List.mem_of_getElem? (i := 76) rfl) rfl
set_option maxRecDepth 20000 in
theorem wd_618 : (Jvm.Cond.code ({ cls := "FamineCode$Ways", name := "copyFrom", desc := "(LFamineCode$Ways;)V" } : Jvm.MethodName) prog_9_method_2_code (2 : Nat) (Option.none : Option Jvm.ClassFile.FieldType)) ∈ gtbl := gt_t2 (List.mem_of_getElem? (i := 77) rfl) rfl
set_option maxRecDepth 20000 in
theorem wd_619 : (Jvm.Cond.methodLink "FamineCode$Ways" (24 : Nat) ({ cls := "java/lang/System", name := "arraycopy", desc := "(Ljava/lang/Object;ILjava/lang/Object;II)V" } : Jvm.MethodName)) ∈ gtbl := gt_t2 (List.mem_of_getElem? (i := 78) rfl) rfl
set_option maxRecDepth 20000 in
theorem wd_620 : (Jvm.Cond.methodLink "FamineCode$State" (63 : Nat) ({ cls := "FamineCode$Works", name := "copyFrom", desc := "(LFamineCode$Works;)V" } : Jvm.MethodName)) ∈ gtbl := gt_t2 (List.mem_of_getElem? (i := 79) rfl) rfl
set_option maxRecDepth 20000 in
theorem wd_621 : (Jvm.Cond.instanceMethod ({ cls := "FamineCode$Works", name := "copyFrom", desc := "(LFamineCode$Works;)V" } : Jvm.MethodName)) ∈ gtbl := gt_t2 (List.mem_of_getElem? (i := 80) rfl) rfl
set_option maxRecDepth 20000 in
theorem wd_622 : (Jvm.Cond.selects "FamineCode$Works" ({ cls := "FamineCode$Works", name := "copyFrom", desc := "(LFamineCode$Works;)V" } : Jvm.MethodName) ({ cls := "FamineCode$Works", name := "copyFrom", desc := "(LFamineCode$Works;)V" } : Jvm.MethodName)) ∈ gtbl := gt_t2 (List.mem_of_getElem? (i := 81) rfl) rfl
set_option maxRecDepth 20000 in
theorem wd_623 : (Jvm.Cond.code ({ cls := "FamineCode$Works", name := "copyFrom", desc := "(LFamineCode$Works;)V" } : Jvm.MethodName) prog_10_method_2_code (2 : Nat) (Option.none : Option Jvm.ClassFile.FieldType)) ∈ gtbl := gt_t2 (List.mem_of_getElem? (i := 82) rfl) rfl
set_option maxRecDepth 20000 in
theorem wd_624 : (Jvm.Cond.methodLink "FamineCode$Works" (21 : Nat) ({ cls := "java/lang/System", name := "arraycopy", desc := "(Ljava/lang/Object;ILjava/lang/Object;II)V" } : Jvm.MethodName)) ∈ gtbl := gt_t2 (List.mem_of_getElem? (i := 83) rfl) rfl
set_option maxRecDepth 20000 in
theorem wd_625 : (Jvm.Cond.methodLink "FamineCode$State" (66 : Nat) ({ cls := "java/lang/System", name := "arraycopy", desc := "(Ljava/lang/Object;ILjava/lang/Object;II)V" } : Jvm.MethodName)) ∈ gtbl := gt_t2 (List.mem_of_getElem? (i := 84) rfl) rfl
set_option maxRecDepth 20000 in
theorem wd_626 : (Jvm.Cond.methodLink "FamineCodeLaw" (71 : Nat) ({ cls := "FamineCode", name := "back", desc := "()I" } : Jvm.MethodName)) ∈ gtbl := gt_t2 (List.mem_of_getElem? (i := 85) rfl) rfl
set_option maxRecDepth 20000 in
theorem wd_627 : (Jvm.Cond.instanceMethod ({ cls := "FamineCode", name := "back", desc := "()I" } : Jvm.MethodName)) ∈ gtbl := gt_t2 (List.mem_of_getElem? (i := 86) rfl) rfl
set_option maxRecDepth 20000 in
theorem wd_628 : (Jvm.Cond.selects "FamineCode" ({ cls := "FamineCode", name := "back", desc := "()I" } : Jvm.MethodName) ({ cls := "FamineCode", name := "back", desc := "()I" } : Jvm.MethodName)) ∈ gtbl := gt_t2 (List.mem_of_getElem? (i := 87) rfl) rfl
set_option maxRecDepth 20000 in
theorem wd_629 : (Jvm.Cond.code ({ cls := "FamineCode", name := "back", desc := "()I" } : Jvm.MethodName) prog_1_method_15_code (1 : Nat) (Option.some Jvm.ClassFile.FieldType.int)) ∈ gtbl := gt_t2 (List.mem_of_getElem? (i := 88) rfl) rfl
set_option maxRecDepth 20000 in
theorem wd_630 : (Jvm.Cond.methodLink "FamineCodeLaw" (75 : Nat) ({ cls := "FamineCode", name := "told", desc := "(II)I" } : Jvm.MethodName)) ∈ gtbl := gt_t2 (List.mem_of_getElem? (i := 89) rfl) rfl
set_option maxRecDepth 20000 in
theorem wd_631 : (Jvm.Cond.instanceMethod ({ cls := "FamineCode", name := "told", desc := "(II)I" } : Jvm.MethodName)) ∈ gtbl := gt_t2 (List.mem_of_getElem? (i := 90) rfl) rfl
set_option maxRecDepth 20000 in
theorem wd_632 : (Jvm.Cond.selects "FamineCode" ({ cls := "FamineCode", name := "told", desc := "(II)I" } : Jvm.MethodName) ({ cls := "FamineCode", name := "told", desc := "(II)I" } : Jvm.MethodName)) ∈ gtbl := gt_t2 (List.mem_of_getElem? (i := 91) rfl) rfl
set_option maxRecDepth 20000 in
theorem wd_633 : (Jvm.Cond.code ({ cls := "FamineCode", name := "told", desc := "(II)I" } : Jvm.MethodName) prog_1_method_16_code (3 : Nat) (Option.some Jvm.ClassFile.FieldType.int)) ∈ gtbl := gt_t2 (List.mem_of_getElem? (i := 92) rfl) rfl
set_option maxRecDepth 20000 in
theorem wd_634 : (Jvm.Cond.methodLink "FamineCodeLaw" (79 : Nat) ({ cls := "FamineCode", name := "known", desc := "(IIII)I" } : Jvm.MethodName)) ∈ gtbl := gt_t2 (List.mem_of_getElem? (i := 93) rfl) rfl
set_option maxRecDepth 20000 in
theorem wd_635 : (Jvm.Cond.instanceMethod ({ cls := "FamineCode", name := "known", desc := "(IIII)I" } : Jvm.MethodName)) ∈ gtbl := gt_t2 (List.mem_of_getElem? (i := 94) rfl) rfl
set_option maxRecDepth 20000 in
theorem wd_636 : (Jvm.Cond.selects "FamineCode" ({ cls := "FamineCode", name := "known", desc := "(IIII)I" } : Jvm.MethodName) ({ cls := "FamineCode", name := "known", desc := "(IIII)I" } : Jvm.MethodName)) ∈ gtbl := gt_t2 (List.mem_of_getElem? (i := 95) rfl) rfl
set_option maxRecDepth 20000 in
theorem wd_637 : (Jvm.Cond.code ({ cls := "FamineCode", name := "known", desc := "(IIII)I" } : Jvm.MethodName) prog_1_method_17_code (5 : Nat) (Option.some Jvm.ClassFile.FieldType.int)) ∈ gtbl := gt_t2 (List.mem_of_getElem? (i := 96) rfl) rfl
set_option maxRecDepth 20000 in
theorem wd_638 : (Jvm.Cond.methodLink "FamineCode" (174 : Nat) ({ cls := "FamineCode", name := "isAnyWeek", desc := "(I)Z" } : Jvm.MethodName)) ∈ gtbl := gt_t2 (List.mem_of_getElem? (i := 97) rfl) rfl
set_option maxRecDepth 20000 in
theorem wd_639 : (Jvm.Cond.static ({ cls := "FamineCode", name := "isAnyWeek", desc := "(I)Z" } : Jvm.MethodName)) ∈ gtbl := gt_t2 (List.mem_of_getElem? (i := 98) rfl) rfl
set_option maxRecDepth 20000 in
theorem wd_640 : (Jvm.Cond.code ({ cls := "FamineCode", name := "isAnyWeek", desc := "(I)Z" } : Jvm.MethodName) prog_1_method_47_code (1 : Nat) (Option.some Jvm.ClassFile.FieldType.boolean)) ∈ gtbl := gt_t2 (List.mem_of_getElem? (i := 99) rfl) rfl
set_option maxRecDepth 20000 in
theorem wd_641 : (Jvm.Cond.methodLink "FamineCode" (177 : Nat) ({ cls := "FamineCode$Signs", name := "asKnown", desc := "(IIII)I" } : Jvm.MethodName)) ∈ gtbl := gt_t2 (List.mem_of_getElem? (i := 100) rfl) rfl
set_option maxRecDepth 20000 in
theorem wd_642 : (Jvm.Cond.methodLink "FamineCodeLaw" (83 : Nat) ({ cls := "FamineCode", name := "holds", desc := "(IIII)I" } : Jvm.MethodName)) ∈ gtbl := gt_t2 (List.mem_of_getElem? (i := 101) rfl) rfl
set_option maxRecDepth 20000 in
theorem wd_643 : (Jvm.Cond.instanceMethod ({ cls := "FamineCode", name := "holds", desc := "(IIII)I" } : Jvm.MethodName)) ∈ gtbl := gt_t2 (List.mem_of_getElem? (i := 102) rfl) rfl
set_option maxRecDepth 20000 in
theorem wd_644 : (Jvm.Cond.selects "FamineCode" ({ cls := "FamineCode", name := "holds", desc := "(IIII)I" } : Jvm.MethodName) ({ cls := "FamineCode", name := "holds", desc := "(IIII)I" } : Jvm.MethodName)) ∈ gtbl := gt_t2 (List.mem_of_getElem? (i := 103) rfl) rfl
set_option maxRecDepth 20000 in
theorem wd_645 : (Jvm.Cond.code ({ cls := "FamineCode", name := "holds", desc := "(IIII)I" } : Jvm.MethodName) prog_1_method_18_code (5 : Nat) (Option.some Jvm.ClassFile.FieldType.int)) ∈ gtbl := gt_t2 (List.mem_of_getElem? (i := 104) rfl) rfl
set_option maxRecDepth 20000 in
theorem wd_646 : (Jvm.Cond.methodLink "FamineCode" (180 : Nat) ({ cls := "FamineCode$Code", name := "holding", desc := "(LFamineCode$Signs;III)I" } : Jvm.MethodName)) ∈ gtbl := gt_t2 (List.mem_of_getElem? (i := 105) rfl) rfl
set_option maxRecDepth 20000 in
theorem wd_647 : (Jvm.Cond.methodLink "FamineCodeLaw" (87 : Nat) ({ cls := "FamineCode", name := "open", desc := "(III)I" } : Jvm.MethodName)) ∈ gtbl := gt_t2 (List.mem_of_getElem? (i := 106) rfl) rfl
set_option maxRecDepth 20000 in
theorem wd_648 : (Jvm.Cond.instanceMethod ({ cls := "FamineCode", name := "open", desc := "(III)I" } : Jvm.MethodName)) ∈ gtbl := gt_t2 (List.mem_of_getElem? (i := 107) rfl) rfl
set_option maxRecDepth 20000 in
theorem wd_649 : (Jvm.Cond.selects "FamineCode" ({ cls := "FamineCode", name := "open", desc := "(III)I" } : Jvm.MethodName) ({ cls := "FamineCode", name := "open", desc := "(III)I" } : Jvm.MethodName)) ∈ gtbl := gt_t2 (List.mem_of_getElem? (i := 108) rfl) rfl
set_option maxRecDepth 20000 in
theorem wd_650 : (Jvm.Cond.code ({ cls := "FamineCode", name := "open", desc := "(III)I" } : Jvm.MethodName) prog_1_method_19_code (5 : Nat) (Option.some Jvm.ClassFile.FieldType.int)) ∈ gtbl := gt_t2 (List.mem_of_getElem? (i := 109) rfl) rfl
set_option maxRecDepth 20000 in
theorem wd_651 : (Jvm.Cond.methodLink "FamineCode" (184 : Nat) ({ cls := "FamineCode$Code", name := "inForce", desc := "(I)I" } : Jvm.MethodName)) ∈ gtbl := gt_t2 (List.mem_of_getElem? (i := 110) rfl) rfl
set_option maxRecDepth 20000 in
theorem wd_652 : (Jvm.Cond.methodLink "FamineCode" (187 : Nat) ({ cls := "FamineCode$Code", name := "kindsOf", desc := "(I)I" } : Jvm.MethodName)) ∈ gtbl := gt_t2 (List.mem_of_getElem? (i := 111) rfl) rfl
set_option maxRecDepth 20000 in
theorem wd_653 : (Jvm.Cond.methodLink "FamineCodeLaw" (91 : Nat) ({ cls := "FamineCode", name := "why", desc := "(IIII)I" } : Jvm.MethodName)) ∈ gtbl := gt_t2 (List.mem_of_getElem? (i := 112) rfl) rfl
set_option maxRecDepth 20000 in
theorem wd_654 : (Jvm.Cond.instanceMethod ({ cls := "FamineCode", name := "why", desc := "(IIII)I" } : Jvm.MethodName)) ∈ gtbl := gt_t2 (List.mem_of_getElem? (i := 113) rfl) rfl
set_option maxRecDepth 20000 in
theorem wd_655 : (Jvm.Cond.selects "FamineCode" ({ cls := "FamineCode", name := "why", desc := "(IIII)I" } : Jvm.MethodName) ({ cls := "FamineCode", name := "why", desc := "(IIII)I" } : Jvm.MethodName)) ∈ gtbl := gt_t2 (List.mem_of_getElem? (i := 114) rfl) rfl
set_option maxRecDepth 20000 in
theorem wd_656 : (Jvm.Cond.code ({ cls := "FamineCode", name := "why", desc := "(IIII)I" } : Jvm.MethodName) prog_1_method_20_code (6 : Nat) (Option.some Jvm.ClassFile.FieldType.int)) ∈ gtbl := gt_t2 (List.mem_of_getElem? (i := 115) rfl) rfl
set_option maxRecDepth 20000 in
theorem wd_657 : (Jvm.Cond.methodLink "FamineCode" (190 : Nat) ({ cls := "FamineCode$Code", name := "leastOf", desc := "(II)I" } : Jvm.MethodName)) ∈ gtbl := gt_t2 (List.mem_of_getElem? (i := 116) rfl) rfl
set_option maxRecDepth 20000 in
theorem wd_658 : (Jvm.Cond.instanceMethod ({ cls := "FamineCode$Code", name := "leastOf", desc := "(II)I" } : Jvm.MethodName)) ∈ gtbl := gt_t2 (List.mem_of_getElem? (i := 117) rfl) rfl
set_option maxRecDepth 20000 in
theorem wd_659 : (Jvm.Cond.selects "FamineCode$Code" ({ cls := "FamineCode$Code", name := "leastOf", desc := "(II)I" } : Jvm.MethodName) ({ cls := "FamineCode$Code", name := "leastOf", desc := "(II)I" } : Jvm.MethodName)) ∈ gtbl := gt_t2 (List.mem_of_getElem? (i := 118) rfl) rfl
set_option maxRecDepth 20000 in
theorem wd_660 : (Jvm.Cond.code ({ cls := "FamineCode$Code", name := "leastOf", desc := "(II)I" } : Jvm.MethodName) prog_4_method_11_code (4 : Nat) (Option.some Jvm.ClassFile.FieldType.int)) ∈ gtbl := gt_t2 (List.mem_of_getElem? (i := 119) rfl) rfl
set_option maxRecDepth 20000 in
theorem wd_661 : (Jvm.Cond.methodLink "FamineCodeLaw" (95 : Nat) ({ cls := "FamineCode", name := "was", desc := "(II)I" } : Jvm.MethodName)) ∈ gtbl := gt_t2 (List.mem_of_getElem? (i := 120) rfl) rfl
set_option maxRecDepth 20000 in
theorem wd_662 : (Jvm.Cond.instanceMethod ({ cls := "FamineCode", name := "was", desc := "(II)I" } : Jvm.MethodName)) ∈ gtbl := gt_t2 (List.mem_of_getElem? (i := 121) rfl) rfl
set_option maxRecDepth 20000 in
theorem wd_663 : (Jvm.Cond.selects "FamineCode" ({ cls := "FamineCode", name := "was", desc := "(II)I" } : Jvm.MethodName) ({ cls := "FamineCode", name := "was", desc := "(II)I" } : Jvm.MethodName)) ∈ gtbl := gt_t2 (List.mem_of_getElem? (i := 122) rfl) rfl
set_option maxRecDepth 20000 in
theorem wd_664 : (Jvm.Cond.code ({ cls := "FamineCode", name := "was", desc := "(II)I" } : Jvm.MethodName) prog_1_method_21_code (3 : Nat) (Option.some Jvm.ClassFile.FieldType.int)) ∈ gtbl := gt_t2 (List.mem_of_getElem? (i := 123) rfl) rfl
set_option maxRecDepth 20000 in
theorem wd_665 : (Jvm.Cond.methodLink "FamineCodeLaw" (99 : Nat) ({ cls := "FamineCode", name := "lineTold", desc := "(II)I" } : Jvm.MethodName)) ∈ gtbl := gt_t2 (List.mem_of_getElem? (i := 124) rfl) rfl
set_option maxRecDepth 20000 in
theorem wd_666 : (Jvm.Cond.instanceMethod ({ cls := "FamineCode", name := "lineTold", desc := "(II)I" } : Jvm.MethodName)) ∈ gtbl := gt_t2 (List.mem_of_getElem? (i := 125) rfl) rfl
set_option maxRecDepth 20000 in
theorem wd_667 : (Jvm.Cond.selects "FamineCode" ({ cls := "FamineCode", name := "lineTold", desc := "(II)I" } : Jvm.MethodName) ({ cls := "FamineCode", name := "lineTold", desc := "(II)I" } : Jvm.MethodName)) ∈ gtbl := gt_t2 (List.mem_of_getElem? (i := 126) rfl) rfl
set_option maxRecDepth 20000 in
theorem wd_668 : (Jvm.Cond.code ({ cls := "FamineCode", name := "lineTold", desc := "(II)I" } : Jvm.MethodName) prog_1_method_22_code (3 : Nat) (Option.some Jvm.ClassFile.FieldType.int)) ∈ gtbl := gt_t2 (List.mem_of_getElem? (i := 127) rfl) rfl
set_option maxRecDepth 20000 in
theorem wd_669 : (Jvm.Cond.methodLink "FamineCodeLaw" (103 : Nat) ({ cls := "FamineCode", name := "load", desc := "(III)I" } : Jvm.MethodName)) ∈ gtbl := gt_t2 (List.mem_of_getElem? (i := 128) rfl) rfl
set_option maxRecDepth 20000 in
theorem wd_670 : (Jvm.Cond.instanceMethod ({ cls := "FamineCode", name := "load", desc := "(III)I" } : Jvm.MethodName)) ∈ gtbl := gt_t2 (List.mem_of_getElem? (i := 129) rfl) rfl
set_option maxRecDepth 20000 in
theorem wd_671 : (Jvm.Cond.selects "FamineCode" ({ cls := "FamineCode", name := "load", desc := "(III)I" } : Jvm.MethodName) ({ cls := "FamineCode", name := "load", desc := "(III)I" } : Jvm.MethodName)) ∈ gtbl := gt_t2 (List.mem_of_getElem? (i := 130) rfl) rfl
set_option maxRecDepth 20000 in
theorem wd_672 : (Jvm.Cond.code ({ cls := "FamineCode", name := "load", desc := "(III)I" } : Jvm.MethodName) prog_1_method_23_code (5 : Nat) (Option.some Jvm.ClassFile.FieldType.int)) ∈ gtbl := gt_t2 (List.mem_of_getElem? (i := 131) rfl) rfl
set_option maxRecDepth 20000 in
theorem wd_673 : (Jvm.Cond.methodLink "FamineCodeLaw" (107 : Nat) ({ cls := "FamineCode", name := "loaded", desc := "(IIII)I" } : Jvm.MethodName)) ∈ gtbl := gt_t2 (List.mem_of_getElem? (i := 132) rfl) rfl
set_option maxRecDepth 20000 in
theorem wd_674 : (Jvm.Cond.instanceMethod ({ cls := "FamineCode", name := "loaded", desc := "(IIII)I" } : Jvm.MethodName)) ∈ gtbl := gt_t2 (List.mem_of_getElem? (i := 133) rfl) rfl
set_option maxRecDepth 20000 in
theorem wd_675 : (Jvm.Cond.selects "FamineCode" ({ cls := "FamineCode", name := "loaded", desc := "(IIII)I" } : Jvm.MethodName) ({ cls := "FamineCode", name := "loaded", desc := "(IIII)I" } : Jvm.MethodName)) ∈ gtbl := gt_t2 (List.mem_of_getElem? (i := 134) rfl) rfl
set_option maxRecDepth 20000 in
theorem wd_676 : (Jvm.Cond.code ({ cls := "FamineCode", name := "loaded", desc := "(IIII)I" } : Jvm.MethodName) prog_1_method_24_code (6 : Nat) (Option.some Jvm.ClassFile.FieldType.int)) ∈ gtbl := gt_t2 (List.mem_of_getElem? (i := 135) rfl) rfl
set_option maxRecDepth 20000 in
theorem wd_677 : (Jvm.Cond.methodLink "FamineCodeLaw" (111 : Nat) ({ cls := "FamineCode", name := "fewest", desc := "(III)I" } : Jvm.MethodName)) ∈ gtbl := gt_t2 (List.mem_of_getElem? (i := 136) rfl) rfl
set_option maxRecDepth 20000 in
theorem wd_678 : (Jvm.Cond.instanceMethod ({ cls := "FamineCode", name := "fewest", desc := "(III)I" } : Jvm.MethodName)) ∈ gtbl := gt_t2 (List.mem_of_getElem? (i := 137) rfl) rfl
set_option maxRecDepth 20000 in
theorem wd_679 : (Jvm.Cond.selects "FamineCode" ({ cls := "FamineCode", name := "fewest", desc := "(III)I" } : Jvm.MethodName) ({ cls := "FamineCode", name := "fewest", desc := "(III)I" } : Jvm.MethodName)) ∈ gtbl := gt_t2 (List.mem_of_getElem? (i := 138) rfl) rfl
set_option maxRecDepth 20000 in
theorem wd_680 : (Jvm.Cond.code ({ cls := "FamineCode", name := "fewest", desc := "(III)I" } : Jvm.MethodName) prog_1_method_25_code (4 : Nat) (Option.some Jvm.ClassFile.FieldType.int)) ∈ gtbl := gt_t2 (List.mem_of_getElem? (i := 139) rfl) rfl
set_option maxRecDepth 20000 in
theorem wd_681 : (Jvm.Cond.methodLink "FamineCode" (200 : Nat) ({ cls := "FamineCode$Ways", name := "reached", desc := "(II)I" } : Jvm.MethodName)) ∈ gtbl := gt_t2 (List.mem_of_getElem? (i := 140) rfl) rfl
set_option maxRecDepth 20000 in
theorem wd_682 : (Jvm.Cond.instanceMethod ({ cls := "FamineCode$Ways", name := "reached", desc := "(II)I" } : Jvm.MethodName)) ∈ gtbl := gt_t2 (List.mem_of_getElem? (i := 141) rfl) rfl
set_option maxRecDepth 20000 in
theorem wd_683 : (Jvm.Cond.selects "FamineCode$Ways" ({ cls := "FamineCode$Ways", name := "reached", desc := "(II)I" } : Jvm.MethodName) ({ cls := "FamineCode$Ways", name := "reached", desc := "(II)I" } : Jvm.MethodName)) ∈ gtbl := gt_t2 (List.mem_of_getElem? (i := 142) rfl) rfl
set_option maxRecDepth 20000 in
theorem wd_684 : (Jvm.Cond.code ({ cls := "FamineCode$Ways", name := "reached", desc := "(II)I" } : Jvm.MethodName) prog_9_method_4_code (7 : Nat) (Option.some Jvm.ClassFile.FieldType.int)) ∈ gtbl := gt_t2 (List.mem_of_getElem? (i := 143) rfl) rfl
set_option maxRecDepth 20000 in
theorem wd_685 : (Jvm.Cond.methodLink "FamineCode" (203 : Nat) ({ cls := "FamineCode$Works", name := "bestSet", desc := "(II)I" } : Jvm.MethodName)) ∈ gtbl := gt_t2 (List.mem_of_getElem? (i := 144) rfl) rfl
set_option maxRecDepth 20000 in
theorem wd_686 : (Jvm.Cond.instanceMethod ({ cls := "FamineCode$Works", name := "bestSet", desc := "(II)I" } : Jvm.MethodName)) ∈ gtbl := gt_t2 (List.mem_of_getElem? (i := 145) rfl) rfl
set_option maxRecDepth 20000 in
theorem wd_687 : (Jvm.Cond.selects "FamineCode$Works" ({ cls := "FamineCode$Works", name := "bestSet", desc := "(II)I" } : Jvm.MethodName) ({ cls := "FamineCode$Works", name := "bestSet", desc := "(II)I" } : Jvm.MethodName)) ∈ gtbl := gt_t2 (List.mem_of_getElem? (i := 146) rfl) rfl
set_option maxRecDepth 20000 in
theorem wd_688 : (Jvm.Cond.code ({ cls := "FamineCode$Works", name := "bestSet", desc := "(II)I" } : Jvm.MethodName) prog_10_method_4_code (9 : Nat) (Option.some Jvm.ClassFile.FieldType.int)) ∈ gtbl := gt_t2 (List.mem_of_getElem? (i := 147) rfl) rfl
set_option maxRecDepth 20000 in
theorem wd_689 : (Jvm.Cond.methodLink "FamineCode$Works" (31 : Nat) ({ cls := "FamineCode$Works", name := "worksIn", desc := "(I)I" } : Jvm.MethodName)) ∈ gtbl := gt_t2 (List.mem_of_getElem? (i := 148) rfl) rfl
set_option maxRecDepth 20000 in
theorem wd_690 : (Jvm.Cond.instanceMethod ({ cls := "FamineCode$Works", name := "worksIn", desc := "(I)I" } : Jvm.MethodName)) ∈ gtbl := gt_t2 (List.mem_of_getElem? (i := 149) rfl) rfl
set_option maxRecDepth 20000 in
theorem wd_691 : (Jvm.Cond.selects "FamineCode$Works" ({ cls := "FamineCode$Works", name := "worksIn", desc := "(I)I" } : Jvm.MethodName) ({ cls := "FamineCode$Works", name := "worksIn", desc := "(I)I" } : Jvm.MethodName)) ∈ gtbl := gt_t2 (List.mem_of_getElem? (i := 150) rfl) rfl
set_option maxRecDepth 20000 in
theorem wd_692 : (Jvm.Cond.code ({ cls := "FamineCode$Works", name := "worksIn", desc := "(I)I" } : Jvm.MethodName) prog_10_method_5_code (4 : Nat) (Option.some Jvm.ClassFile.FieldType.int)) ∈ gtbl := gt_t2 (List.mem_of_getElem? (i := 151) rfl) rfl
set_option maxRecDepth 20000 in
theorem wd_693 : (Jvm.Cond.methodLink "FamineCode$Works" (35 : Nat) ({ cls := "FamineCode$Works", name := "sumOver", desc := "(I[I)I" } : Jvm.MethodName)) ∈ gtbl := gt_t2 (List.mem_of_getElem? (i := 152) rfl) rfl
set_option maxRecDepth 20000 in
theorem wd_694 : (Jvm.Cond.instanceMethod ({ cls := "FamineCode$Works", name := "sumOver", desc := "(I[I)I" } : Jvm.MethodName)) ∈ gtbl := gt_t2 (List.mem_of_getElem? (i := 153) rfl) rfl
set_option maxRecDepth 20000 in
theorem wd_695 : (Jvm.Cond.selects "FamineCode$Works" ({ cls := "FamineCode$Works", name := "sumOver", desc := "(I[I)I" } : Jvm.MethodName) ({ cls := "FamineCode$Works", name := "sumOver", desc := "(I[I)I" } : Jvm.MethodName)) ∈ gtbl := gt_t2 (List.mem_of_getElem? (i := 154) rfl) rfl
set_option maxRecDepth 20000 in
theorem wd_696 : (Jvm.Cond.code ({ cls := "FamineCode$Works", name := "sumOver", desc := "(I[I)I" } : Jvm.MethodName) prog_10_method_6_code (5 : Nat) (Option.some Jvm.ClassFile.FieldType.int)) ∈ gtbl := gt_t2 (List.mem_of_getElem? (i := 155) rfl) rfl
set_option maxRecDepth 20000 in
theorem wd_697 : (Jvm.Cond.methodLink "FamineCode$Works" (39 : Nat) ({ cls := "java/lang/Integer", name := "bitCount", desc := "(I)I" } : Jvm.MethodName)) ∈ gtbl := gt_t2 (List.mem_of_getElem? (i := 156) rfl) rfl
set_option maxRecDepth 20000 in
theorem wd_698 : (Jvm.Cond.static ({ cls := "java/lang/Integer", name := "bitCount", desc := "(I)I" } : Jvm.MethodName)) ∈ gtbl := gt_t2 (List.mem_of_getElem? (i := 157) rfl) rfl
set_option maxRecDepth 20000 in
theorem wd_699 : (Jvm.Cond.code ({ cls := "java/lang/Integer", name := "bitCount", desc := "(I)I" } : Jvm.MethodName) prog_13_method_49_code (1 : Nat) (Option.some Jvm.ClassFile.FieldType.int)) ∈ gtbl := gt_t2 (List.mem_of_getElem? (i := 158) rfl) rfl
set_option maxRecDepth 20000 in
theorem wd_700 : (Jvm.Cond.constant "java/lang/Integer" (265 : Nat) (1431655765 : Int32)) ∈ gtbl := gt_t2 (List.mem_of_getElem? (i := 159) rfl) rfl
set_option maxRecDepth 20000 in
theorem wd_701 : (Jvm.Cond.constant "java/lang/Integer" (266 : Nat) (858993459 : Int32)) ∈ gtbl := gt_t2 (List.mem_of_getElem? (i := 160) rfl) rfl
set_option maxRecDepth 20000 in
theorem wd_702 : (Jvm.Cond.constant "java/lang/Integer" (267 : Nat) (252645135 : Int32)) ∈ gtbl := gt_t2 (List.mem_of_getElem? (i := 161) rfl) rfl
set_option maxRecDepth 20000 in
theorem wd_703 : (Jvm.Cond.methodLink "FamineCodeLaw" (115 : Nat) ({ cls := "FamineCode", name := "beside", desc := "(III)I" } : Jvm.MethodName)) ∈ gtbl := gt_t2 (List.mem_of_getElem? (i := 162) rfl) rfl
set_option maxRecDepth 20000 in
theorem wd_704 : (Jvm.Cond.instanceMethod ({ cls := "FamineCode", name := "beside", desc := "(III)I" } : Jvm.MethodName)) ∈ gtbl := gt_t2 (List.mem_of_getElem? (i := 163) rfl) rfl
set_option maxRecDepth 20000 in
theorem wd_705 : (Jvm.Cond.selects "FamineCode" ({ cls := "FamineCode", name := "beside", desc := "(III)I" } : Jvm.MethodName) ({ cls := "FamineCode", name := "beside", desc := "(III)I" } : Jvm.MethodName)) ∈ gtbl := gt_t2 (List.mem_of_getElem? (i := 164) rfl) rfl
set_option maxRecDepth 20000 in
theorem wd_706 : (Jvm.Cond.code ({ cls := "FamineCode", name := "beside", desc := "(III)I" } : Jvm.MethodName) prog_1_method_26_code (5 : Nat) (Option.some Jvm.ClassFile.FieldType.int)) ∈ gtbl := gt_t2 (List.mem_of_getElem? (i := 165) rfl) rfl
set_option maxRecDepth 20000 in
theorem wd_707 : (Jvm.Cond.methodLink "FamineCode" (206 : Nat) ({ cls := "java/lang/Math", name := "min", desc := "(II)I" } : Jvm.MethodName)) ∈ gtbl := gt_t2 (List.mem_of_getElem? (i := 166) rfl) rfl
set_option maxRecDepth 20000 in
theorem wd_708 : (Jvm.Cond.methodLink "FamineCode" (211 : Nat) ({ cls := "FamineCode$State", name := "dream", desc := "(LFamineCode$Land;II)V" } : Jvm.MethodName)) ∈ gtbl := gt_t2 (List.mem_of_getElem? (i := 167) rfl) rfl
set_option maxRecDepth 20000 in
theorem wd_709 : (Jvm.Cond.instanceMethod ({ cls := "FamineCode$State", name := "dream", desc := "(LFamineCode$Land;II)V" } : Jvm.MethodName)) ∈ gtbl := gt_t2 (List.mem_of_getElem? (i := 168) rfl) rfl
set_option maxRecDepth 20000 in
theorem wd_710 : (Jvm.Cond.selects "FamineCode$State" ({ cls := "FamineCode$State", name := "dream", desc := "(LFamineCode$Land;II)V" } : Jvm.MethodName) ({ cls := "FamineCode$State", name := "dream", desc := "(LFamineCode$Land;II)V" } : Jvm.MethodName)) ∈ gtbl := gt_t2 (List.mem_of_getElem? (i := 169) rfl) rfl
set_option maxRecDepth 20000 in
theorem wd_711 : (Jvm.Cond.code ({ cls := "FamineCode$State", name := "dream", desc := "(LFamineCode$Land;II)V" } : Jvm.MethodName) prog_8_method_4_code (7 : Nat) (Option.none : Option Jvm.ClassFile.FieldType)) ∈ gtbl := gt_t2 (List.mem_of_getElem? (i := 170) rfl) rfl
set_option maxRecDepth 20000 in
theorem wd_712 : (Jvm.Cond.methodLink "FamineCode" (215 : Nat) ({ cls := "FamineCode$Land", name := "sum", desc := "(I)I" } : Jvm.MethodName)) ∈ gtbl := gt_t2 (List.mem_of_getElem? (i := 171) rfl) rfl
set_option maxRecDepth 20000 in
theorem wd_713 : (Jvm.Cond.instanceMethod ({ cls := "FamineCode$Land", name := "sum", desc := "(I)I" } : Jvm.MethodName)) ∈ gtbl := gt_t2 (List.mem_of_getElem? (i := 172) rfl) rfl
set_option maxRecDepth 20000 in
theorem wd_714 : (Jvm.Cond.selects "FamineCode$Land" ({ cls := "FamineCode$Land", name := "sum", desc := "(I)I" } : Jvm.MethodName) ({ cls := "FamineCode$Land", name := "sum", desc := "(I)I" } : Jvm.MethodName)) ∈ gtbl := gt_t2 (List.mem_of_getElem? (i := 173) rfl) rfl
set_option maxRecDepth 20000 in
theorem wd_715 : (Jvm.Cond.code ({ cls := "FamineCode$Land", name := "sum", desc := "(I)I" } : Jvm.MethodName) prog_5_method_7_code (2 : Nat) (Option.some Jvm.ClassFile.FieldType.int)) ∈ gtbl := gt_t2 (List.mem_of_getElem? (i := 174) rfl) rfl
set_option maxRecDepth 20000 in
theorem wd_716 : (Jvm.Cond.methodLink "FamineCode$Land" (45 : Nat) ({ cls := "FamineCode$Land", name := "sumOfClasses", desc := "(I)I" } : Jvm.MethodName)) ∈ gtbl := gt_t2 (List.mem_of_getElem? (i := 175) rfl) rfl
set_option maxRecDepth 20000 in
theorem wd_717 : (Jvm.Cond.instanceMethod ({ cls := "FamineCode$Land", name := "sumOfClasses", desc := "(I)I" } : Jvm.MethodName)) ∈ gtbl := gt_t2 (List.mem_of_getElem? (i := 176) rfl) rfl
set_option maxRecDepth 20000 in
theorem wd_718 : (Jvm.Cond.selects "FamineCode$Land" ({ cls := "FamineCode$Land", name := "sumOfClasses", desc := "(I)I" } : Jvm.MethodName) ({ cls := "FamineCode$Land", name := "sumOfClasses", desc := "(I)I" } : Jvm.MethodName)) ∈ gtbl := gt_t2 (List.mem_of_getElem? (i := 177) rfl) rfl
set_option maxRecDepth 20000 in
theorem wd_719 : (Jvm.Cond.code ({ cls := "FamineCode$Land", name := "sumOfClasses", desc := "(I)I" } : Jvm.MethodName) prog_5_method_8_code (5 : Nat) (Option.some Jvm.ClassFile.FieldType.int)) ∈ gtbl := gt_t2 (List.mem_of_getElem? (i := 178) rfl) rfl
set_option maxRecDepth 20000 in
theorem wd_720 : (Jvm.Cond.methodLink "FamineCodeLaw" (119 : Nat) ({ cls := "FamineCode", name := "count", desc := "(I)I" } : Jvm.MethodName)) ∈ gtbl := gt_t2 (List.mem_of_getElem? (i := 179) rfl) rfl
set_option maxRecDepth 20000 in
theorem wd_721 : (Jvm.Cond.instanceMethod ({ cls := "FamineCode", name := "count", desc := "(I)I" } : Jvm.MethodName)) ∈ gtbl := gt_t2 (List.mem_of_getElem? (i := 180) rfl) rfl
set_option maxRecDepth 20000 in
theorem wd_722 : (Jvm.Cond.selects "FamineCode" ({ cls := "FamineCode", name := "count", desc := "(I)I" } : Jvm.MethodName) ({ cls := "FamineCode", name := "count", desc := "(I)I" } : Jvm.MethodName)) ∈ gtbl := gt_t2 (List.mem_of_getElem? (i := 181) rfl) rfl
set_option maxRecDepth 20000 in
theorem wd_723 : (Jvm.Cond.code ({ cls := "FamineCode", name := "count", desc := "(I)I" } : Jvm.MethodName) prog_1_method_27_code (2 : Nat) (Option.some Jvm.ClassFile.FieldType.int)) ∈ gtbl := gt_t2 (List.mem_of_getElem? (i := 182) rfl) rfl
set_option maxRecDepth 20000 in
theorem wd_724 : (Jvm.Cond.methodLink "FamineCodeLaw" (123 : Nat) ({ cls := "FamineCode", name := "act", desc := "(III)I" } : Jvm.MethodName)) ∈ gtbl := gt_t2 (List.mem_of_getElem? (i := 183) rfl) rfl
set_option maxRecDepth 20000 in
theorem wd_725 : (Jvm.Cond.instanceMethod ({ cls := "FamineCode", name := "act", desc := "(III)I" } : Jvm.MethodName)) ∈ gtbl := gt_t2 (List.mem_of_getElem? (i := 184) rfl) rfl
set_option maxRecDepth 20000 in
theorem wd_726 : (Jvm.Cond.selects "FamineCode" ({ cls := "FamineCode", name := "act", desc := "(III)I" } : Jvm.MethodName) ({ cls := "FamineCode", name := "act", desc := "(III)I" } : Jvm.MethodName)) ∈ gtbl := gt_t2 (List.mem_of_getElem? (i := 185) rfl) rfl
set_option maxRecDepth 20000 in
theorem wd_727 : (Jvm.Cond.code ({ cls := "FamineCode", name := "act", desc := "(III)I" } : Jvm.MethodName) prog_1_method_28_code (4 : Nat) (Option.some Jvm.ClassFile.FieldType.int)) ∈ gtbl := gt_t2 (List.mem_of_getElem? (i := 186) rfl) rfl
set_option maxRecDepth 20000 in
theorem wd_728 : (Jvm.Cond.methodLink "FamineCode" (230 : Nat) ({ cls := "FamineCode$Acts", name := "run", desc := "(LFamineCode$Code;III)I" } : Jvm.MethodName)) ∈ gtbl := gt_t2 (List.mem_of_getElem? (i := 187) rfl) rfl
set_option maxRecDepth 20000 in
theorem wd_729 : (Jvm.Cond.instanceMethod ({ cls := "FamineCode$Acts", name := "run", desc := "(LFamineCode$Code;III)I" } : Jvm.MethodName)) ∈ gtbl := gt_t2 (List.mem_of_getElem? (i := 188) rfl) rfl
set_option maxRecDepth 20000 in
theorem wd_730 : (Jvm.Cond.selects "FamineCode$Acts" ({ cls := "FamineCode$Acts", name := "run", desc := "(LFamineCode$Code;III)I" } : Jvm.MethodName) ({ cls := "FamineCode$Acts", name := "run", desc := "(LFamineCode$Code;III)I" } : Jvm.MethodName)) ∈ gtbl := gt_t2 (List.mem_of_getElem? (i := 189) rfl) rfl
set_option maxRecDepth 20000 in
theorem wd_731 : (Jvm.Cond.code ({ cls := "FamineCode$Acts", name := "run", desc := "(LFamineCode$Code;III)I" } : Jvm.MethodName) prog_2_method_2_code (5 : Nat) (Option.some Jvm.ClassFile.FieldType.int)) ∈ gtbl := gt_t2 (List.mem_of_getElem? (i := 190) rfl) rfl
set_option maxRecDepth 20000 in
theorem wd_732 : (Jvm.Cond.methodLink "FamineCode$Acts" (21 : Nat) ({ cls := "FamineCode$Code", name := "get", desc := "(II)I" } : Jvm.MethodName)) ∈ gtbl := gt_t2 (List.mem_of_getElem? (i := 191) rfl) rfl
set_option maxRecDepth 20000 in
theorem wd_733 : (Jvm.Cond.methodLink "FamineCode$Acts" (37 : Nat) ({ cls := "FamineCode$Acts", name := "own", desc := "(III)I" } : Jvm.MethodName)) ∈ gtbl := gt_t2 (List.mem_of_getElem? (i := 192) rfl) rfl
set_option maxRecDepth 20000 in
theorem wd_735 : (Jvm.Cond.instanceMethod ({ cls := "FamineCode$Acts", name := "own", desc := "(III)I" } : Jvm.MethodName)) ∈ gtbl := gt_t2 (List.mem_of_getElem? (i := 194) rfl) rfl
set_option maxRecDepth 20000 in
theorem wd_736 : (Jvm.Cond.code ({ cls := "FamineCode$Acts", name := "own", desc := "(III)I" } : Jvm.MethodName) prog_2_method_3_code (4 : Nat) (Option.some Jvm.ClassFile.FieldType.int)) ∈ gtbl := gt_t2 (List.mem_of_getElem? (i := 195) rfl) rfl
set_option maxRecDepth 20000 in
theorem wd_737 : (Jvm.Cond.methodLink "FamineCode$Acts" (41 : Nat) ({ cls := "FamineCode$Acts", name := "from", desc := "(IIII)I" } : Jvm.MethodName)) ∈ gtbl := gt_t2 (List.mem_of_getElem? (i := 196) rfl) rfl
set_option maxRecDepth 20000 in
theorem wd_739 : (Jvm.Cond.instanceMethod ({ cls := "FamineCode$Acts", name := "from", desc := "(IIII)I" } : Jvm.MethodName)) ∈ gtbl := gt_t2 (List.mem_of_getElem? (i := 198) rfl) rfl
set_option maxRecDepth 20000 in
theorem wd_740 : (Jvm.Cond.code ({ cls := "FamineCode$Acts", name := "from", desc := "(IIII)I" } : Jvm.MethodName) prog_2_method_4_code (7 : Nat) (Option.some Jvm.ClassFile.FieldType.int)) ∈ gtbl := gt_t2 (List.mem_of_getElem? (i := 199) rfl) rfl
set_option maxRecDepth 20000 in
theorem wd_742 : (Jvm.Cond.fieldLink "FamineCode$Acts" (49 : Nat) "FamineCode$Acts" "BODIES" "[I") ∈ gtbl := gt_t2 (List.mem_of_getElem? (i := 201) rfl) rfl
set_option maxRecDepth 20000 in
theorem wd_746 : (Jvm.Cond.methodLink "FamineCode$Acts" (55 : Nat) ({ cls := "FamineCode$Acts", name := "body", desc := "(IIII)I" } : Jvm.MethodName)) ∈ gtbl := gt_t2 (List.mem_of_getElem? (i := 205) rfl) rfl
set_option maxRecDepth 20000 in
theorem wd_748 : (Jvm.Cond.instanceMethod ({ cls := "FamineCode$Acts", name := "body", desc := "(IIII)I" } : Jvm.MethodName)) ∈ gtbl := gt_t2 (List.mem_of_getElem? (i := 207) rfl) rfl
set_option maxRecDepth 20000 in
theorem wd_749 : (Jvm.Cond.code ({ cls := "FamineCode$Acts", name := "body", desc := "(IIII)I" } : Jvm.MethodName) prog_2_method_5_code (5 : Nat) (Option.some Jvm.ClassFile.FieldType.int)) ∈ gtbl := gt_t2 (List.mem_of_getElem? (i := 208) rfl) rfl
set_option maxRecDepth 20000 in
theorem wd_750 : (Jvm.Cond.methodLink "FamineCode$Acts" (58 : Nat) ({ cls := "FamineCode$Acts", name := "keepInTrace", desc := "(I)V" } : Jvm.MethodName)) ∈ gtbl := gt_t2 (List.mem_of_getElem? (i := 209) rfl) rfl
set_option maxRecDepth 20000 in
theorem wd_752 : (Jvm.Cond.instanceMethod ({ cls := "FamineCode$Acts", name := "keepInTrace", desc := "(I)V" } : Jvm.MethodName)) ∈ gtbl := gt_t2 (List.mem_of_getElem? (i := 211) rfl) rfl
set_option maxRecDepth 20000 in
theorem wd_753 : (Jvm.Cond.code ({ cls := "FamineCode$Acts", name := "keepInTrace", desc := "(I)V" } : Jvm.MethodName) prog_2_method_6_code (2 : Nat) (Option.none : Option Jvm.ClassFile.FieldType)) ∈ gtbl := gt_t2 (List.mem_of_getElem? (i := 212) rfl) rfl
set_option maxRecDepth 20000 in
theorem wd_754 : (Jvm.Cond.methodLink "FamineCodeLaw" (127 : Nat) ({ cls := "FamineCode", name := "trace", desc := "(I)I" } : Jvm.MethodName)) ∈ gtbl := gt_t2 (List.mem_of_getElem? (i := 213) rfl) rfl
set_option maxRecDepth 20000 in
theorem wd_755 : (Jvm.Cond.instanceMethod ({ cls := "FamineCode", name := "trace", desc := "(I)I" } : Jvm.MethodName)) ∈ gtbl := gt_t2 (List.mem_of_getElem? (i := 214) rfl) rfl
set_option maxRecDepth 20000 in
theorem wd_756 : (Jvm.Cond.selects "FamineCode" ({ cls := "FamineCode", name := "trace", desc := "(I)I" } : Jvm.MethodName) ({ cls := "FamineCode", name := "trace", desc := "(I)I" } : Jvm.MethodName)) ∈ gtbl := gt_t2 (List.mem_of_getElem? (i := 215) rfl) rfl
set_option maxRecDepth 20000 in
theorem wd_757 : (Jvm.Cond.code ({ cls := "FamineCode", name := "trace", desc := "(I)I" } : Jvm.MethodName) prog_1_method_29_code (2 : Nat) (Option.some Jvm.ClassFile.FieldType.int)) ∈ gtbl := gt_t2 (List.mem_of_getElem? (i := 216) rfl) rfl
set_option maxRecDepth 20000 in
theorem wd_758 : (Jvm.Cond.methodLink "FamineCodeLaw" (131 : Nat) ({ cls := "FamineCode", name := "sheet", desc := "(III)I" } : Jvm.MethodName)) ∈ gtbl := gt_t2 (List.mem_of_getElem? (i := 217) rfl) rfl
set_option maxRecDepth 20000 in
theorem wd_759 : (Jvm.Cond.instanceMethod ({ cls := "FamineCode", name := "sheet", desc := "(III)I" } : Jvm.MethodName)) ∈ gtbl := gt_t2 (List.mem_of_getElem? (i := 218) rfl) rfl
set_option maxRecDepth 20000 in
theorem wd_760 : (Jvm.Cond.selects "FamineCode" ({ cls := "FamineCode", name := "sheet", desc := "(III)I" } : Jvm.MethodName) ({ cls := "FamineCode", name := "sheet", desc := "(III)I" } : Jvm.MethodName)) ∈ gtbl := gt_t2 (List.mem_of_getElem? (i := 219) rfl) rfl
set_option maxRecDepth 20000 in
theorem wd_761 : (Jvm.Cond.code ({ cls := "FamineCode", name := "sheet", desc := "(III)I" } : Jvm.MethodName) prog_1_method_30_code (5 : Nat) (Option.some Jvm.ClassFile.FieldType.int)) ∈ gtbl := gt_t2 (List.mem_of_getElem? (i := 220) rfl) rfl
set_option maxRecDepth 20000 in
theorem wd_762 : (Jvm.Cond.methodLink "FamineCode" (237 : Nat) ({ cls := "FamineCode", name := "isSheet", desc := "(I)Z" } : Jvm.MethodName)) ∈ gtbl := gt_t2 (List.mem_of_getElem? (i := 221) rfl) rfl
set_option maxRecDepth 20000 in
theorem wd_763 : (Jvm.Cond.static ({ cls := "FamineCode", name := "isSheet", desc := "(I)Z" } : Jvm.MethodName)) ∈ gtbl := gt_t2 (List.mem_of_getElem? (i := 222) rfl) rfl
set_option maxRecDepth 20000 in
theorem wd_764 : (Jvm.Cond.code ({ cls := "FamineCode", name := "isSheet", desc := "(I)Z" } : Jvm.MethodName) prog_1_method_49_code (1 : Nat) (Option.some Jvm.ClassFile.FieldType.boolean)) ∈ gtbl := gt_t2 (List.mem_of_getElem? (i := 223) rfl) rfl
set_option maxRecDepth 20000 in
theorem wd_765 : (Jvm.Cond.methodLink "FamineCode" (240 : Nat) ({ cls := "FamineCode$Sheets", name := "lay", desc := "(III)V" } : Jvm.MethodName)) ∈ gtbl := gt_t2 (List.mem_of_getElem? (i := 224) rfl) rfl
set_option maxRecDepth 20000 in
theorem wd_766 : (Jvm.Cond.instanceMethod ({ cls := "FamineCode$Sheets", name := "lay", desc := "(III)V" } : Jvm.MethodName)) ∈ gtbl := gt_t2 (List.mem_of_getElem? (i := 225) rfl) rfl
set_option maxRecDepth 20000 in
theorem wd_767 : (Jvm.Cond.selects "FamineCode$Sheets" ({ cls := "FamineCode$Sheets", name := "lay", desc := "(III)V" } : Jvm.MethodName) ({ cls := "FamineCode$Sheets", name := "lay", desc := "(III)V" } : Jvm.MethodName)) ∈ gtbl := gt_t2 (List.mem_of_getElem? (i := 226) rfl) rfl
set_option maxRecDepth 20000 in
theorem wd_768 : (Jvm.Cond.code ({ cls := "FamineCode$Sheets", name := "lay", desc := "(III)V" } : Jvm.MethodName) prog_6_method_2_code (5 : Nat) (Option.none : Option Jvm.ClassFile.FieldType)) ∈ gtbl := gt_t2 (List.mem_of_getElem? (i := 227) rfl) rfl
set_option maxRecDepth 20000 in
theorem wd_769 : (Jvm.Cond.methodLink "FamineCode$Sheets" (27 : Nat) ({ cls := "FamineCode$Sheets", name := "put", desc := "(III)V" } : Jvm.MethodName)) ∈ gtbl := gt_t2 (List.mem_of_getElem? (i := 228) rfl) rfl
set_option maxRecDepth 20000 in
theorem wd_770 : (Jvm.Cond.instanceMethod ({ cls := "FamineCode$Sheets", name := "put", desc := "(III)V" } : Jvm.MethodName)) ∈ gtbl := gt_t2 (List.mem_of_getElem? (i := 229) rfl) rfl
set_option maxRecDepth 20000 in
theorem wd_771 : (Jvm.Cond.selects "FamineCode$Sheets" ({ cls := "FamineCode$Sheets", name := "put", desc := "(III)V" } : Jvm.MethodName) ({ cls := "FamineCode$Sheets", name := "put", desc := "(III)V" } : Jvm.MethodName)) ∈ gtbl := gt_t2 (List.mem_of_getElem? (i := 230) rfl) rfl
set_option maxRecDepth 20000 in
theorem wd_772 : (Jvm.Cond.code ({ cls := "FamineCode$Sheets", name := "put", desc := "(III)V" } : Jvm.MethodName) prog_6_method_7_code (4 : Nat) (Option.none : Option Jvm.ClassFile.FieldType)) ∈ gtbl := gt_t2 (List.mem_of_getElem? (i := 231) rfl) rfl
set_option maxRecDepth 20000 in
theorem wd_773 : (Jvm.Cond.methodLink "FamineCodeLaw" (135 : Nat) ({ cls := "FamineCode", name := "cell", desc := "(III)I" } : Jvm.MethodName)) ∈ gtbl := gt_t2 (List.mem_of_getElem? (i := 232) rfl) rfl
set_option maxRecDepth 20000 in
theorem wd_774 : (Jvm.Cond.instanceMethod ({ cls := "FamineCode", name := "cell", desc := "(III)I" } : Jvm.MethodName)) ∈ gtbl := gt_t2 (List.mem_of_getElem? (i := 233) rfl) rfl
set_option maxRecDepth 20000 in
theorem wd_775 : (Jvm.Cond.selects "FamineCode" ({ cls := "FamineCode", name := "cell", desc := "(III)I" } : Jvm.MethodName) ({ cls := "FamineCode", name := "cell", desc := "(III)I" } : Jvm.MethodName)) ∈ gtbl := gt_t2 (List.mem_of_getElem? (i := 234) rfl) rfl
set_option maxRecDepth 20000 in
theorem wd_776 : (Jvm.Cond.code ({ cls := "FamineCode", name := "cell", desc := "(III)I" } : Jvm.MethodName) prog_1_method_31_code (4 : Nat) (Option.some Jvm.ClassFile.FieldType.int)) ∈ gtbl := gt_t2 (List.mem_of_getElem? (i := 235) rfl) rfl
set_option maxRecDepth 20000 in
theorem wd_777 : (Jvm.Cond.methodLink "FamineCode" (243 : Nat) ({ cls := "FamineCode$Sheets", name := "isMissing", desc := "(I)Z" } : Jvm.MethodName)) ∈ gtbl := gt_t2 (List.mem_of_getElem? (i := 236) rfl) rfl
set_option maxRecDepth 20000 in
theorem wd_778 : (Jvm.Cond.instanceMethod ({ cls := "FamineCode$Sheets", name := "isMissing", desc := "(I)Z" } : Jvm.MethodName)) ∈ gtbl := gt_t2 (List.mem_of_getElem? (i := 237) rfl) rfl
set_option maxRecDepth 20000 in
theorem wd_779 : (Jvm.Cond.selects "FamineCode$Sheets" ({ cls := "FamineCode$Sheets", name := "isMissing", desc := "(I)Z" } : Jvm.MethodName) ({ cls := "FamineCode$Sheets", name := "isMissing", desc := "(I)Z" } : Jvm.MethodName)) ∈ gtbl := gt_t2 (List.mem_of_getElem? (i := 238) rfl) rfl
set_option maxRecDepth 20000 in
theorem wd_780 : (Jvm.Cond.code ({ cls := "FamineCode$Sheets", name := "isMissing", desc := "(I)Z" } : Jvm.MethodName) prog_6_method_3_code (2 : Nat) (Option.some Jvm.ClassFile.FieldType.boolean)) ∈ gtbl := gt_t2 (List.mem_of_getElem? (i := 239) rfl) rfl
set_option maxRecDepth 20000 in
theorem wd_781 : (Jvm.Cond.methodLink "FamineCode" (246 : Nat) ({ cls := "FamineCode$Sheets", name := "spans", desc := "(III)Z" } : Jvm.MethodName)) ∈ gtbl := gt_t3 (List.mem_of_getElem? (i := 0) rfl) rfl
set_option maxRecDepth 20000 in
theorem wd_782 : (Jvm.Cond.instanceMethod ({ cls := "FamineCode$Sheets", name := "spans", desc := "(III)Z" } : Jvm.MethodName)) ∈ gtbl := gt_t3 (List.mem_of_getElem? (i := 1) rfl) rfl
set_option maxRecDepth 20000 in
theorem wd_783 : (Jvm.Cond.selects "FamineCode$Sheets" ({ cls := "FamineCode$Sheets", name := "spans", desc := "(III)Z" } : Jvm.MethodName) ({ cls := "FamineCode$Sheets", name := "spans", desc := "(III)Z" } : Jvm.MethodName)) ∈ gtbl := gt_t3 (List.mem_of_getElem? (i := 2) rfl) rfl
set_option maxRecDepth 20000 in
theorem wd_784 : (Jvm.Cond.code ({ cls := "FamineCode$Sheets", name := "spans", desc := "(III)Z" } : Jvm.MethodName) prog_6_method_5_code (4 : Nat) (Option.some Jvm.ClassFile.FieldType.boolean)) ∈ gtbl := gt_t3 (List.mem_of_getElem? (i := 3) rfl) rfl
set_option maxRecDepth 20000 in
theorem wd_785 : (Jvm.Cond.methodLink "FamineCode" (249 : Nat) ({ cls := "FamineCode$Sheets", name := "put", desc := "(III)V" } : Jvm.MethodName)) ∈ gtbl := gt_t3 (List.mem_of_getElem? (i := 4) rfl) rfl
set_option maxRecDepth 20000 in
theorem wd_786 : (Jvm.Cond.methodLink "FamineCodeLaw" (139 : Nat) ({ cls := "FamineCode", name := "signs", desc := "(IIIIII)I" } : Jvm.MethodName)) ∈ gtbl := gt_t3 (List.mem_of_getElem? (i := 5) rfl) rfl
set_option maxRecDepth 20000 in
theorem wd_787 : (Jvm.Cond.instanceMethod ({ cls := "FamineCode", name := "signs", desc := "(IIIIII)I" } : Jvm.MethodName)) ∈ gtbl := gt_t3 (List.mem_of_getElem? (i := 6) rfl) rfl
set_option maxRecDepth 20000 in
theorem wd_788 : (Jvm.Cond.selects "FamineCode" ({ cls := "FamineCode", name := "signs", desc := "(IIIIII)I" } : Jvm.MethodName) ({ cls := "FamineCode", name := "signs", desc := "(IIIIII)I" } : Jvm.MethodName)) ∈ gtbl := gt_t3 (List.mem_of_getElem? (i := 7) rfl) rfl
set_option maxRecDepth 20000 in
theorem wd_789 : (Jvm.Cond.code ({ cls := "FamineCode", name := "signs", desc := "(IIIIII)I" } : Jvm.MethodName) prog_1_method_32_code (11 : Nat) (Option.some Jvm.ClassFile.FieldType.int)) ∈ gtbl := gt_t3 (List.mem_of_getElem? (i := 8) rfl) rfl
set_option maxRecDepth 20000 in
theorem wd_790 : (Jvm.Cond.methodLink "FamineCode" (250 : Nat) ({ cls := "FamineCode", name := "isSheetSort", desc := "(I)Z" } : Jvm.MethodName)) ∈ gtbl := gt_t3 (List.mem_of_getElem? (i := 9) rfl) rfl
set_option maxRecDepth 20000 in
theorem wd_791 : (Jvm.Cond.static ({ cls := "FamineCode", name := "isSheetSort", desc := "(I)Z" } : Jvm.MethodName)) ∈ gtbl := gt_t3 (List.mem_of_getElem? (i := 10) rfl) rfl
set_option maxRecDepth 20000 in
theorem wd_792 : (Jvm.Cond.code ({ cls := "FamineCode", name := "isSheetSort", desc := "(I)Z" } : Jvm.MethodName) prog_1_method_50_code (1 : Nat) (Option.some Jvm.ClassFile.FieldType.boolean)) ∈ gtbl := gt_t3 (List.mem_of_getElem? (i := 11) rfl) rfl
set_option maxRecDepth 20000 in
theorem wd_793 : (Jvm.Cond.methodLink "FamineCode" (253 : Nat) ({ cls := "FamineCode$Sheets", name := "faultAs", desc := "(II)I" } : Jvm.MethodName)) ∈ gtbl := gt_t3 (List.mem_of_getElem? (i := 12) rfl) rfl
set_option maxRecDepth 20000 in
theorem wd_794 : (Jvm.Cond.instanceMethod ({ cls := "FamineCode$Sheets", name := "faultAs", desc := "(II)I" } : Jvm.MethodName)) ∈ gtbl := gt_t3 (List.mem_of_getElem? (i := 13) rfl) rfl
set_option maxRecDepth 20000 in
theorem wd_795 : (Jvm.Cond.selects "FamineCode$Sheets" ({ cls := "FamineCode$Sheets", name := "faultAs", desc := "(II)I" } : Jvm.MethodName) ({ cls := "FamineCode$Sheets", name := "faultAs", desc := "(II)I" } : Jvm.MethodName)) ∈ gtbl := gt_t3 (List.mem_of_getElem? (i := 14) rfl) rfl
set_option maxRecDepth 20000 in
theorem wd_796 : (Jvm.Cond.code ({ cls := "FamineCode$Sheets", name := "faultAs", desc := "(II)I" } : Jvm.MethodName) prog_6_method_4_code (3 : Nat) (Option.some Jvm.ClassFile.FieldType.int)) ∈ gtbl := gt_t3 (List.mem_of_getElem? (i := 15) rfl) rfl
set_option maxRecDepth 20000 in
theorem wd_797 : (Jvm.Cond.methodLink "FamineCode$Sheets" (31 : Nat) ({ cls := "FamineCode$Sheets", name := "isMissing", desc := "(I)Z" } : Jvm.MethodName)) ∈ gtbl := gt_t3 (List.mem_of_getElem? (i := 16) rfl) rfl
set_option maxRecDepth 20000 in
theorem wd_798 : (Jvm.Cond.methodLink "FamineCode" (256 : Nat) ({ cls := "FamineCode$Sheets", name := "allWithin", desc := "(IIII)Z" } : Jvm.MethodName)) ∈ gtbl := gt_t3 (List.mem_of_getElem? (i := 17) rfl) rfl
set_option maxRecDepth 20000 in
theorem wd_799 : (Jvm.Cond.instanceMethod ({ cls := "FamineCode$Sheets", name := "allWithin", desc := "(IIII)Z" } : Jvm.MethodName)) ∈ gtbl := gt_t3 (List.mem_of_getElem? (i := 18) rfl) rfl
set_option maxRecDepth 20000 in
theorem wd_800 : (Jvm.Cond.selects "FamineCode$Sheets" ({ cls := "FamineCode$Sheets", name := "allWithin", desc := "(IIII)Z" } : Jvm.MethodName) ({ cls := "FamineCode$Sheets", name := "allWithin", desc := "(IIII)Z" } : Jvm.MethodName)) ∈ gtbl := gt_t3 (List.mem_of_getElem? (i := 19) rfl) rfl
set_option maxRecDepth 20000 in
theorem wd_801 : (Jvm.Cond.code ({ cls := "FamineCode$Sheets", name := "allWithin", desc := "(IIII)Z" } : Jvm.MethodName) prog_6_method_9_code (6 : Nat) (Option.some Jvm.ClassFile.FieldType.boolean)) ∈ gtbl := gt_t3 (List.mem_of_getElem? (i := 20) rfl) rfl
set_option maxRecDepth 20000 in
theorem wd_802 : (Jvm.Cond.methodLink "FamineCode$Sheets" (35 : Nat) ({ cls := "FamineCode$Sheets", name := "get", desc := "(II)I" } : Jvm.MethodName)) ∈ gtbl := gt_t3 (List.mem_of_getElem? (i := 21) rfl) rfl
set_option maxRecDepth 20000 in
theorem wd_803 : (Jvm.Cond.instanceMethod ({ cls := "FamineCode$Sheets", name := "get", desc := "(II)I" } : Jvm.MethodName)) ∈ gtbl := gt_t3 (List.mem_of_getElem? (i := 22) rfl) rfl
set_option maxRecDepth 20000 in
theorem wd_804 : (Jvm.Cond.selects "FamineCode$Sheets" ({ cls := "FamineCode$Sheets", name := "get", desc := "(II)I" } : Jvm.MethodName) ({ cls := "FamineCode$Sheets", name := "get", desc := "(II)I" } : Jvm.MethodName)) ∈ gtbl := gt_t3 (List.mem_of_getElem? (i := 23) rfl) rfl
set_option maxRecDepth 20000 in
theorem wd_805 : (Jvm.Cond.code ({ cls := "FamineCode$Sheets", name := "get", desc := "(II)I" } : Jvm.MethodName) prog_6_method_6_code (3 : Nat) (Option.some Jvm.ClassFile.FieldType.int)) ∈ gtbl := gt_t3 (List.mem_of_getElem? (i := 24) rfl) rfl
set_option maxRecDepth 20000 in
theorem wd_807 : (Jvm.Cond.methodLink "FamineCode" (260 : Nat) ({ cls := "FamineCode$Sheets", name := "get", desc := "(II)I" } : Jvm.MethodName)) ∈ gtbl := gt_t3 (List.mem_of_getElem? (i := 26) rfl) rfl
set_option maxRecDepth 20000 in
theorem wd_808 : (Jvm.Cond.methodLink "FamineCodeLaw" (144 : Nat) ({ cls := "FamineCode", name := "forge", desc := "(III)I" } : Jvm.MethodName)) ∈ gtbl := gt_t3 (List.mem_of_getElem? (i := 27) rfl) rfl
set_option maxRecDepth 20000 in
theorem wd_809 : (Jvm.Cond.instanceMethod ({ cls := "FamineCode", name := "forge", desc := "(III)I" } : Jvm.MethodName)) ∈ gtbl := gt_t3 (List.mem_of_getElem? (i := 28) rfl) rfl
set_option maxRecDepth 20000 in
theorem wd_810 : (Jvm.Cond.selects "FamineCode" ({ cls := "FamineCode", name := "forge", desc := "(III)I" } : Jvm.MethodName) ({ cls := "FamineCode", name := "forge", desc := "(III)I" } : Jvm.MethodName)) ∈ gtbl := gt_t3 (List.mem_of_getElem? (i := 29) rfl) rfl
set_option maxRecDepth 20000 in
theorem wd_811 : (Jvm.Cond.code ({ cls := "FamineCode", name := "forge", desc := "(III)I" } : Jvm.MethodName) prog_1_method_33_code (4 : Nat) (Option.some Jvm.ClassFile.FieldType.int)) ∈ gtbl := gt_t3 (List.mem_of_getElem? (i := 30) rfl) rfl
set_option maxRecDepth 20000 in
theorem wd_812 : (Jvm.Cond.methodLink "FamineCode" (261 : Nat) ({ cls := "java/lang/Math", name := "floorMod", desc := "(II)I" } : Jvm.MethodName)) ∈ gtbl := gt_t3 (List.mem_of_getElem? (i := 31) rfl) rfl
set_option maxRecDepth 20000 in
theorem wd_813 : (Jvm.Cond.static ({ cls := "java/lang/Math", name := "floorMod", desc := "(II)I" } : Jvm.MethodName)) ∈ gtbl := gt_t3 (List.mem_of_getElem? (i := 32) rfl) rfl
set_option maxRecDepth 20000 in
theorem wd_814 : (Jvm.Cond.code ({ cls := "java/lang/Math", name := "floorMod", desc := "(II)I" } : Jvm.MethodName) prog_14_method_50_code (3 : Nat) (Option.some Jvm.ClassFile.FieldType.int)) ∈ gtbl := gt_t3 (List.mem_of_getElem? (i := 33) rfl) rfl
set_option maxRecDepth 20000 in
theorem wd_815 : (Jvm.Cond.methodLink "FamineCode" (264 : Nat) ({ cls := "FamineCode", name := "forgeKind", desc := "(II)I" } : Jvm.MethodName)) ∈ gtbl := gt_t3 (List.mem_of_getElem? (i := 34) rfl) rfl
set_option maxRecDepth 20000 in
theorem wd_817 : (Jvm.Cond.instanceMethod ({ cls := "FamineCode", name := "forgeKind", desc := "(II)I" } : Jvm.MethodName)) ∈ gtbl := gt_t3 (List.mem_of_getElem? (i := 36) rfl) rfl
set_option maxRecDepth 20000 in
theorem wd_818 : (Jvm.Cond.code ({ cls := "FamineCode", name := "forgeKind", desc := "(II)I" } : Jvm.MethodName) prog_1_method_35_code (4 : Nat) (Option.some Jvm.ClassFile.FieldType.int)) ∈ gtbl := gt_t3 (List.mem_of_getElem? (i := 37) rfl) rfl
set_option maxRecDepth 20000 in
theorem wd_819 : (Jvm.Cond.methodLink "FamineCode" (279 : Nat) ({ cls := "FamineCode", name := "isUnder", desc := "(II)Z" } : Jvm.MethodName)) ∈ gtbl := gt_t3 (List.mem_of_getElem? (i := 38) rfl) rfl
set_option maxRecDepth 20000 in
theorem wd_820 : (Jvm.Cond.static ({ cls := "FamineCode", name := "isUnder", desc := "(II)Z" } : Jvm.MethodName)) ∈ gtbl := gt_t3 (List.mem_of_getElem? (i := 39) rfl) rfl
set_option maxRecDepth 20000 in
theorem wd_821 : (Jvm.Cond.code ({ cls := "FamineCode", name := "isUnder", desc := "(II)Z" } : Jvm.MethodName) prog_1_method_51_code (4 : Nat) (Option.some Jvm.ClassFile.FieldType.boolean)) ∈ gtbl := gt_t3 (List.mem_of_getElem? (i := 40) rfl) rfl
set_option maxRecDepth 20000 in
theorem wd_822 : (Jvm.Cond.fieldLink "FamineCode" (288 : Nat) "FamineCode" "KIND_ABOVE" "[I") ∈ gtbl := gt_t3 (List.mem_of_getElem? (i := 41) rfl) rfl
set_option maxRecDepth 20000 in
theorem wd_823 : (Jvm.Cond.methodLink "FamineCode" (267 : Nat) ({ cls := "FamineCode", name := "forgeShort", desc := "(II)I" } : Jvm.MethodName)) ∈ gtbl := gt_t3 (List.mem_of_getElem? (i := 42) rfl) rfl
set_option maxRecDepth 20000 in
theorem wd_825 : (Jvm.Cond.instanceMethod ({ cls := "FamineCode", name := "forgeShort", desc := "(II)I" } : Jvm.MethodName)) ∈ gtbl := gt_t3 (List.mem_of_getElem? (i := 44) rfl) rfl
set_option maxRecDepth 20000 in
theorem wd_826 : (Jvm.Cond.code ({ cls := "FamineCode", name := "forgeShort", desc := "(II)I" } : Jvm.MethodName) prog_1_method_36_code (4 : Nat) (Option.some Jvm.ClassFile.FieldType.int)) ∈ gtbl := gt_t3 (List.mem_of_getElem? (i := 45) rfl) rfl
set_option maxRecDepth 20000 in
theorem wd_827 : (Jvm.Cond.methodLink "FamineCode" (270 : Nat) ({ cls := "FamineCode", name := "forgeCopy", desc := "(II)I" } : Jvm.MethodName)) ∈ gtbl := gt_t3 (List.mem_of_getElem? (i := 46) rfl) rfl
set_option maxRecDepth 20000 in
theorem wd_829 : (Jvm.Cond.instanceMethod ({ cls := "FamineCode", name := "forgeCopy", desc := "(II)I" } : Jvm.MethodName)) ∈ gtbl := gt_t3 (List.mem_of_getElem? (i := 48) rfl) rfl
set_option maxRecDepth 20000 in
theorem wd_830 : (Jvm.Cond.code ({ cls := "FamineCode", name := "forgeCopy", desc := "(II)I" } : Jvm.MethodName) prog_1_method_37_code (4 : Nat) (Option.some Jvm.ClassFile.FieldType.int)) ∈ gtbl := gt_t3 (List.mem_of_getElem? (i := 49) rfl) rfl
set_option maxRecDepth 20000 in
theorem wd_831 : (Jvm.Cond.methodLink "FamineCode" (283 : Nat) ({ cls := "FamineCode$Sheets", name := "sum", desc := "(III)I" } : Jvm.MethodName)) ∈ gtbl := gt_t3 (List.mem_of_getElem? (i := 50) rfl) rfl
set_option maxRecDepth 20000 in
theorem wd_832 : (Jvm.Cond.instanceMethod ({ cls := "FamineCode$Sheets", name := "sum", desc := "(III)I" } : Jvm.MethodName)) ∈ gtbl := gt_t3 (List.mem_of_getElem? (i := 51) rfl) rfl
set_option maxRecDepth 20000 in
theorem wd_833 : (Jvm.Cond.selects "FamineCode$Sheets" ({ cls := "FamineCode$Sheets", name := "sum", desc := "(III)I" } : Jvm.MethodName) ({ cls := "FamineCode$Sheets", name := "sum", desc := "(III)I" } : Jvm.MethodName)) ∈ gtbl := gt_t3 (List.mem_of_getElem? (i := 52) rfl) rfl
set_option maxRecDepth 20000 in
theorem wd_834 : (Jvm.Cond.code ({ cls := "FamineCode$Sheets", name := "sum", desc := "(III)I" } : Jvm.MethodName) prog_6_method_8_code (6 : Nat) (Option.some Jvm.ClassFile.FieldType.int)) ∈ gtbl := gt_t3 (List.mem_of_getElem? (i := 53) rfl) rfl
set_option maxRecDepth 20000 in
theorem wd_835 : (Jvm.Cond.methodLink "FamineCode" (273 : Nat) ({ cls := "FamineCode", name := "forgeRow", desc := "(I)I" } : Jvm.MethodName)) ∈ gtbl := gt_t3 (List.mem_of_getElem? (i := 54) rfl) rfl
set_option maxRecDepth 20000 in
theorem wd_837 : (Jvm.Cond.instanceMethod ({ cls := "FamineCode", name := "forgeRow", desc := "(I)I" } : Jvm.MethodName)) ∈ gtbl := gt_t3 (List.mem_of_getElem? (i := 56) rfl) rfl
set_option maxRecDepth 20000 in
theorem wd_838 : (Jvm.Cond.code ({ cls := "FamineCode", name := "forgeRow", desc := "(I)I" } : Jvm.MethodName) prog_1_method_38_code (3 : Nat) (Option.some Jvm.ClassFile.FieldType.int)) ∈ gtbl := gt_t3 (List.mem_of_getElem? (i := 57) rfl) rfl
set_option maxRecDepth 20000 in
theorem wd_839 : (Jvm.Cond.methodLink "FamineCodeLaw" (148 : Nat) ({ cls := "FamineCode", name := "status", desc := "()I" } : Jvm.MethodName)) ∈ gtbl := gt_t3 (List.mem_of_getElem? (i := 58) rfl) rfl
set_option maxRecDepth 20000 in
theorem wd_840 : (Jvm.Cond.instanceMethod ({ cls := "FamineCode", name := "status", desc := "()I" } : Jvm.MethodName)) ∈ gtbl := gt_t3 (List.mem_of_getElem? (i := 59) rfl) rfl
set_option maxRecDepth 20000 in
theorem wd_841 : (Jvm.Cond.selects "FamineCode" ({ cls := "FamineCode", name := "status", desc := "()I" } : Jvm.MethodName) ({ cls := "FamineCode", name := "status", desc := "()I" } : Jvm.MethodName)) ∈ gtbl := gt_t3 (List.mem_of_getElem? (i := 60) rfl) rfl
set_option maxRecDepth 20000 in
theorem wd_842 : (Jvm.Cond.code ({ cls := "FamineCode", name := "status", desc := "()I" } : Jvm.MethodName) prog_1_method_34_code (1 : Nat) (Option.some Jvm.ClassFile.FieldType.int)) ∈ gtbl := gt_t3 (List.mem_of_getElem? (i := 61) rfl) rfl
set_option maxRecDepth 20000 in
theorem wd_847 : (Jvm.Cond.code ({ cls := "FamineCodeModel", name := "<init>", desc := "()V" } : Jvm.MethodName) prog_12_method_1_code (1 : Nat) (Option.none : Option Jvm.ClassFile.FieldType)) ∈ gtbl := gt_t3 (List.mem_of_getElem? (i := 66) rfl) rfl
set_option maxRecDepth 20000 in
theorem wd_849 : (Jvm.Cond.fieldLink "FamineCodeModel" (162 : Nat) "FamineCodeModel" "status" "I") ∈ gtbl := gt_t3 (List.mem_of_getElem? (i := 68) rfl) rfl
set_option maxRecDepth 20000 in
theorem wd_850 : (Jvm.Cond.fieldLink "FamineCodeModel" (165 : Nat) "FamineCodeModel" "districts" "I") ∈ gtbl := gt_t3 (List.mem_of_getElem? (i := 69) rfl) rfl
set_option maxRecDepth 20000 in
theorem wd_851 : (Jvm.Cond.fieldLink "FamineCodeModel" (7 : Nat) "FamineCodeModel" "store" "[I") ∈ gtbl := gt_t3 (List.mem_of_getElem? (i := 70) rfl) rfl
set_option maxRecDepth 20000 in
theorem wd_852 : (Jvm.Cond.fieldLink "FamineCodeModel" (13 : Nat) "FamineCodeModel" "price" "[I") ∈ gtbl := gt_t3 (List.mem_of_getElem? (i := 71) rfl) rfl
set_option maxRecDepth 20000 in
theorem wd_853 : (Jvm.Cond.fieldLink "FamineCodeModel" (16 : Nat) "FamineCodeModel" "people" "[I") ∈ gtbl := gt_t3 (List.mem_of_getElem? (i := 72) rfl) rfl
set_option maxRecDepth 20000 in
theorem wd_854 : (Jvm.Cond.fieldLink "FamineCodeModel" (19 : Nat) "FamineCodeModel" "coins" "[I") ∈ gtbl := gt_t3 (List.mem_of_getElem? (i := 73) rfl) rfl
set_option maxRecDepth 20000 in
theorem wd_855 : (Jvm.Cond.fieldLink "FamineCodeModel" (22 : Nat) "FamineCodeModel" "debt" "[I") ∈ gtbl := gt_t3 (List.mem_of_getElem? (i := 74) rfl) rfl
set_option maxRecDepth 20000 in
theorem wd_856 : (Jvm.Cond.fieldLink "FamineCodeModel" (25 : Nat) "FamineCodeModel" "lack" "[I") ∈ gtbl := gt_t3 (List.mem_of_getElem? (i := 75) rfl) rfl
set_option maxRecDepth 20000 in
theorem wd_857 : (Jvm.Cond.fieldLink "FamineCodeModel" (28 : Nat) "FamineCodeModel" "dead" "[I") ∈ gtbl := gt_t3 (List.mem_of_getElem? (i := 76) rfl) rfl
set_option maxRecDepth 20000 in
theorem wd_858 : (Jvm.Cond.fieldLink "FamineCodeModel" (31 : Nat) "FamineCodeModel" "was" "[I") ∈ gtbl := gt_t3 (List.mem_of_getElem? (i := 77) rfl) rfl
set_option maxRecDepth 20000 in
theorem wd_859 : (Jvm.Cond.fieldLink "FamineCodeModel" (194 : Nat) "FamineCodeModel" "week" "I") ∈ gtbl := gt_t3 (List.mem_of_getElem? (i := 78) rfl) rfl
set_option maxRecDepth 20000 in
theorem wd_860 : (Jvm.Cond.fieldLink "FamineCodeModel" (34 : Nat) "FamineCodeModel" "wage" "I") ∈ gtbl := gt_t3 (List.mem_of_getElem? (i := 79) rfl) rfl
set_option maxRecDepth 20000 in
theorem wd_861 : (Jvm.Cond.fieldLink "FamineCodeModel" (229 : Nat) "FamineCodeModel" "paid" "I") ∈ gtbl := gt_t3 (List.mem_of_getElem? (i := 80) rfl) rfl
set_option maxRecDepth 20000 in
theorem wd_862 : (Jvm.Cond.fieldLink "FamineCodeModel" (232 : Nat) "FamineCodeModel" "lent" "I") ∈ gtbl := gt_t3 (List.mem_of_getElem? (i := 81) rfl) rfl
set_option maxRecDepth 20000 in
theorem wd_863 : (Jvm.Cond.fieldLink "FamineCodeModel" (245 : Nat) "FamineCodeModel" "earned" "I") ∈ gtbl := gt_t3 (List.mem_of_getElem? (i := 82) rfl) rfl
set_option maxRecDepth 20000 in
theorem wd_864 : (Jvm.Cond.fieldLink "FamineCodeModel" (191 : Nat) "FamineCodeModel" "signs" "I") ∈ gtbl := gt_t3 (List.mem_of_getElem? (i := 83) rfl) rfl
set_option maxRecDepth 20000 in
theorem wd_865 : (Jvm.Cond.fieldLink "FamineCodeModel" (38 : Nat) "FamineCodeModel" "signOf" "[I") ∈ gtbl := gt_t3 (List.mem_of_getElem? (i := 84) rfl) rfl
set_option maxRecDepth 20000 in
theorem wd_866 : (Jvm.Cond.fieldLink "FamineCodeModel" (41 : Nat) "FamineCodeModel" "signSort" "[I") ∈ gtbl := gt_t3 (List.mem_of_getElem? (i := 85) rfl) rfl
set_option maxRecDepth 20000 in
theorem wd_867 : (Jvm.Cond.fieldLink "FamineCodeModel" (44 : Nat) "FamineCodeModel" "signWeek" "[I") ∈ gtbl := gt_t3 (List.mem_of_getElem? (i := 86) rfl) rfl
set_option maxRecDepth 20000 in
theorem wd_868 : (Jvm.Cond.fieldLink "FamineCodeModel" (47 : Nat) "FamineCodeModel" "signAt" "[I") ∈ gtbl := gt_t3 (List.mem_of_getElem? (i := 87) rfl) rfl
set_option maxRecDepth 20000 in
theorem wd_869 : (Jvm.Cond.fieldLink "FamineCodeModel" (50 : Nat) "FamineCodeModel" "signNumber" "[I") ∈ gtbl := gt_t3 (List.mem_of_getElem? (i := 88) rfl) rfl
set_option maxRecDepth 20000 in
theorem wd_870 : (Jvm.Cond.fieldLink "FamineCodeModel" (172 : Nat) "FamineCodeModel" "lines" "I") ∈ gtbl := gt_t3 (List.mem_of_getElem? (i := 89) rfl) rfl
set_option maxRecDepth 20000 in
theorem wd_871 : (Jvm.Cond.fieldLink "FamineCodeModel" (53 : Nat) "FamineCodeModel" "kind" "[I") ∈ gtbl := gt_t3 (List.mem_of_getElem? (i := 90) rfl) rfl
set_option maxRecDepth 20000 in
theorem wd_872 : (Jvm.Cond.fieldLink "FamineCodeModel" (56 : Nat) "FamineCodeModel" "sort" "[I") ∈ gtbl := gt_t3 (List.mem_of_getElem? (i := 91) rfl) rfl
set_option maxRecDepth 20000 in
theorem wd_873 : (Jvm.Cond.fieldLink "FamineCodeModel" (59 : Nat) "FamineCodeModel" "span" "[I") ∈ gtbl := gt_t3 (List.mem_of_getElem? (i := 92) rfl) rfl
set_option maxRecDepth 20000 in
theorem wd_874 : (Jvm.Cond.fieldLink "FamineCodeModel" (62 : Nat) "FamineCodeModel" "how" "[I") ∈ gtbl := gt_t3 (List.mem_of_getElem? (i := 93) rfl) rfl
set_option maxRecDepth 20000 in
theorem wd_875 : (Jvm.Cond.fieldLink "FamineCodeModel" (65 : Nat) "FamineCodeModel" "bound" "[I") ∈ gtbl := gt_t3 (List.mem_of_getElem? (i := 94) rfl) rfl
set_option maxRecDepth 20000 in
theorem wd_876 : (Jvm.Cond.fieldLink "FamineCodeModel" (68 : Nat) "FamineCodeModel" "unknown" "[Z") ∈ gtbl := gt_t3 (List.mem_of_getElem? (i := 95) rfl) rfl
set_option maxRecDepth 20000 in
theorem wd_877 : (Jvm.Cond.fieldLink "FamineCodeModel" (72 : Nat) "FamineCodeModel" "hangs" "[I") ∈ gtbl := gt_t3 (List.mem_of_getElem? (i := 96) rfl) rfl
set_option maxRecDepth 20000 in
theorem wd_878 : (Jvm.Cond.fieldLink "FamineCodeModel" (75 : Nat) "FamineCodeModel" "since" "[I") ∈ gtbl := gt_t3 (List.mem_of_getElem? (i := 97) rfl) rfl
set_option maxRecDepth 20000 in
theorem wd_879 : (Jvm.Cond.fieldLink "FamineCodeModel" (78 : Nat) "FamineCodeModel" "ended" "[I") ∈ gtbl := gt_t3 (List.mem_of_getElem? (i := 98) rfl) rfl
set_option maxRecDepth 20000 in
theorem wd_880 : (Jvm.Cond.fieldLink "FamineCodeModel" (251 : Nat) "FamineCodeModel" "ways" "I") ∈ gtbl := gt_t3 (List.mem_of_getElem? (i := 99) rfl) rfl
set_option maxRecDepth 20000 in
theorem wd_881 : (Jvm.Cond.fieldLink "FamineCodeModel" (81 : Nat) "FamineCodeModel" "wayFrom" "[I") ∈ gtbl := gt_t3 (List.mem_of_getElem? (i := 100) rfl) rfl
set_option maxRecDepth 20000 in
theorem wd_882 : (Jvm.Cond.fieldLink "FamineCodeModel" (84 : Nat) "FamineCodeModel" "wayTo" "[I") ∈ gtbl := gt_t3 (List.mem_of_getElem? (i := 101) rfl) rfl
set_option maxRecDepth 20000 in
theorem wd_883 : (Jvm.Cond.fieldLink "FamineCodeModel" (87 : Nat) "FamineCodeModel" "wayCap" "[I") ∈ gtbl := gt_t3 (List.mem_of_getElem? (i := 102) rfl) rfl
set_option maxRecDepth 20000 in
theorem wd_884 : (Jvm.Cond.fieldLink "FamineCodeModel" (90 : Nat) "FamineCodeModel" "wayPrice" "[I") ∈ gtbl := gt_t3 (List.mem_of_getElem? (i := 103) rfl) rfl
set_option maxRecDepth 20000 in
theorem wd_885 : (Jvm.Cond.fieldLink "FamineCodeModel" (254 : Nat) "FamineCodeModel" "works" "I") ∈ gtbl := gt_t3 (List.mem_of_getElem? (i := 104) rfl) rfl
set_option maxRecDepth 20000 in
theorem wd_886 : (Jvm.Cond.fieldLink "FamineCodeModel" (93 : Nat) "FamineCodeModel" "workIn" "[I") ∈ gtbl := gt_t3 (List.mem_of_getElem? (i := 105) rfl) rfl
set_option maxRecDepth 20000 in
theorem wd_887 : (Jvm.Cond.fieldLink "FamineCodeModel" (96 : Nat) "FamineCodeModel" "workHands" "[I") ∈ gtbl := gt_t3 (List.mem_of_getElem? (i := 106) rfl) rfl
set_option maxRecDepth 20000 in
theorem wd_888 : (Jvm.Cond.fieldLink "FamineCodeModel" (99 : Nat) "FamineCodeModel" "workWorth" "[I") ∈ gtbl := gt_t3 (List.mem_of_getElem? (i := 107) rfl) rfl
set_option maxRecDepth 20000 in
theorem wd_889 : (Jvm.Cond.fieldLink "FamineCodeModel" (102 : Nat) "FamineCodeModel" "cap" "[I") ∈ gtbl := gt_t3 (List.mem_of_getElem? (i := 108) rfl) rfl
set_option maxRecDepth 20000 in
theorem wd_890 : (Jvm.Cond.fieldLink "FamineCodeModel" (105 : Nat) "FamineCodeModel" "tons" "[I") ∈ gtbl := gt_t3 (List.mem_of_getElem? (i := 109) rfl) rfl
set_option maxRecDepth 20000 in
theorem wd_891 : (Jvm.Cond.fieldLink "FamineCodeModel" (108 : Nat) "FamineCodeModel" "left" "[I") ∈ gtbl := gt_t3 (List.mem_of_getElem? (i := 110) rfl) rfl
set_option maxRecDepth 20000 in
theorem wd_892 : (Jvm.Cond.fieldLink "FamineCodeModel" (111 : Nat) "FamineCodeModel" "far" "[I") ∈ gtbl := gt_t3 (List.mem_of_getElem? (i := 111) rfl) rfl
set_option maxRecDepth 20000 in
theorem wd_893 : (Jvm.Cond.fieldLink "FamineCodeModel" (114 : Nat) "FamineCodeModel" "by" "[I") ∈ gtbl := gt_t3 (List.mem_of_getElem? (i := 112) rfl) rfl
set_option maxRecDepth 20000 in
theorem wd_894 : (Jvm.Cond.fieldLink "FamineCodeModel" (117 : Nat) "FamineCodeModel" "keptStore" "[I") ∈ gtbl := gt_t3 (List.mem_of_getElem? (i := 113) rfl) rfl
set_option maxRecDepth 20000 in
theorem wd_895 : (Jvm.Cond.fieldLink "FamineCodeModel" (120 : Nat) "FamineCodeModel" "keptPrice" "[I") ∈ gtbl := gt_t3 (List.mem_of_getElem? (i := 114) rfl) rfl
set_option maxRecDepth 20000 in
theorem wd_896 : (Jvm.Cond.fieldLink "FamineCodeModel" (123 : Nat) "FamineCodeModel" "keptPeople" "[I") ∈ gtbl := gt_t3 (List.mem_of_getElem? (i := 115) rfl) rfl
set_option maxRecDepth 20000 in
theorem wd_897 : (Jvm.Cond.fieldLink "FamineCodeModel" (126 : Nat) "FamineCodeModel" "keptCoins" "[I") ∈ gtbl := gt_t3 (List.mem_of_getElem? (i := 116) rfl) rfl
set_option maxRecDepth 20000 in
theorem wd_898 : (Jvm.Cond.fieldLink "FamineCodeModel" (129 : Nat) "FamineCodeModel" "keptDebt" "[I") ∈ gtbl := gt_t3 (List.mem_of_getElem? (i := 117) rfl) rfl
set_option maxRecDepth 20000 in
theorem wd_899 : (Jvm.Cond.fieldLink "FamineCodeModel" (132 : Nat) "FamineCodeModel" "keptLack" "[I") ∈ gtbl := gt_t3 (List.mem_of_getElem? (i := 118) rfl) rfl
set_option maxRecDepth 20000 in
theorem wd_900 : (Jvm.Cond.fieldLink "FamineCodeModel" (135 : Nat) "FamineCodeModel" "keptDead" "[I") ∈ gtbl := gt_t3 (List.mem_of_getElem? (i := 119) rfl) rfl
set_option maxRecDepth 20000 in
theorem wd_901 : (Jvm.Cond.fieldLink "FamineCodeModel" (138 : Nat) "FamineCodeModel" "keptSums" "[I") ∈ gtbl := gt_t3 (List.mem_of_getElem? (i := 120) rfl) rfl
set_option maxRecDepth 20000 in
theorem wd_902 : (Jvm.Cond.fieldLink "FamineCodeModel" (301 : Nat) "FamineCodeModel" "hasImage" "Z") ∈ gtbl := gt_t3 (List.mem_of_getElem? (i := 121) rfl) rfl
set_option maxRecDepth 20000 in
theorem wd_903 : (Jvm.Cond.fieldLink "FamineCodeModel" (305 : Nat) "FamineCodeModel" "backs" "I") ∈ gtbl := gt_t3 (List.mem_of_getElem? (i := 122) rfl) rfl
set_option maxRecDepth 20000 in
theorem wd_904 : (Jvm.Cond.fieldLink "FamineCodeModel" (141 : Nat) "FamineCodeModel" "imageOf" "[I") ∈ gtbl := gt_t3 (List.mem_of_getElem? (i := 123) rfl) rfl
set_option maxRecDepth 20000 in
theorem wd_905 : (Jvm.Cond.fieldLink "FamineCodeModel" (144 : Nat) "FamineCodeModel" "imageEnded" "[I") ∈ gtbl := gt_t3 (List.mem_of_getElem? (i := 124) rfl) rfl
set_option maxRecDepth 20000 in
theorem wd_906 : (Jvm.Cond.fieldLink "FamineCodeModel" (147 : Nat) "FamineCodeModel" "imageWas" "[I") ∈ gtbl := gt_t3 (List.mem_of_getElem? (i := 125) rfl) rfl
set_option maxRecDepth 20000 in
theorem wd_907 : (Jvm.Cond.fieldLink "FamineCodeModel" (150 : Nat) "FamineCodeModel" "trace" "[I") ∈ gtbl := gt_t3 (List.mem_of_getElem? (i := 126) rfl) rfl
set_option maxRecDepth 20000 in
theorem wd_908 : (Jvm.Cond.fieldLink "FamineCodeModel" (308 : Nat) "FamineCodeModel" "traces" "I") ∈ gtbl := gt_t3 (List.mem_of_getElem? (i := 127) rfl) rfl
set_option maxRecDepth 20000 in
theorem wd_909 : (Jvm.Cond.fieldLink "FamineCodeModel" (153 : Nat) "FamineCodeModel" "sheetSort" "[I") ∈ gtbl := gt_t3 (List.mem_of_getElem? (i := 128) rfl) rfl
set_option maxRecDepth 20000 in
theorem wd_910 : (Jvm.Cond.fieldLink "FamineCodeModel" (156 : Nat) "FamineCodeModel" "sheetSize" "[I") ∈ gtbl := gt_t3 (List.mem_of_getElem? (i := 129) rfl) rfl
set_option maxRecDepth 20000 in
theorem wd_911 : (Jvm.Cond.fieldLink "FamineCodeModel" (159 : Nat) "FamineCodeModel" "cells" "[I") ∈ gtbl := gt_t3 (List.mem_of_getElem? (i := 130) rfl) rfl
set_option maxRecDepth 20000 in
theorem wd_1040 : (Jvm.Cond.methodLink "FamineCodeLaw" (17 : Nat) ({ cls := "FamineCodeModel", name := "district", desc := "(II)I" } : Jvm.MethodName)) ∈ gtbl := gt_t4 (List.mem_of_getElem? (i := 19) rfl) rfl
set_option maxRecDepth 20000 in
theorem wd_1041 : (Jvm.Cond.instanceMethod ({ cls := "FamineCodeModel", name := "district", desc := "(II)I" } : Jvm.MethodName)) ∈ gtbl := gt_t4 (List.mem_of_getElem? (i := 20) rfl) rfl
set_option maxRecDepth 20000 in
theorem wd_1042 : (Jvm.Cond.selects "FamineCodeModel" ({ cls := "FamineCodeModel", name := "district", desc := "(II)I" } : Jvm.MethodName) ({ cls := "FamineCodeModel", name := "district", desc := "(II)I" } : Jvm.MethodName)) ∈ gtbl := gt_t4 (List.mem_of_getElem? (i := 21) rfl) rfl
set_option maxRecDepth 20000 in
theorem wd_1043 : (Jvm.Cond.code ({ cls := "FamineCodeModel", name := "district", desc := "(II)I" } : Jvm.MethodName) prog_12_method_8_code (5 : Nat) (Option.some Jvm.ClassFile.FieldType.int)) ∈ gtbl := gt_t4 (List.mem_of_getElem? (i := 22) rfl) rfl
set_option maxRecDepth 20000 in
theorem wd_1044 : (Jvm.Cond.constant "FamineCodeModel" (175 : Nat) (99999 : Int32)) ∈ gtbl := gt_t4 (List.mem_of_getElem? (i := 23) rfl) rfl
set_option maxRecDepth 20000 in
theorem wd_1045 : (Jvm.Cond.methodLink "FamineCodeModel" (168 : Nat) ({ cls := "FamineCodeModel", name := "in", desc := "(III)Z" } : Jvm.MethodName)) ∈ gtbl := gt_t4 (List.mem_of_getElem? (i := 24) rfl) rfl
set_option maxRecDepth 20000 in
theorem wd_1046 : (Jvm.Cond.static ({ cls := "FamineCodeModel", name := "in", desc := "(III)Z" } : Jvm.MethodName)) ∈ gtbl := gt_t4 (List.mem_of_getElem? (i := 25) rfl) rfl
set_option maxRecDepth 20000 in
theorem wd_1047 : (Jvm.Cond.code ({ cls := "FamineCodeModel", name := "in", desc := "(III)Z" } : Jvm.MethodName) prog_12_method_3_code (3 : Nat) (Option.some Jvm.ClassFile.FieldType.boolean)) ∈ gtbl := gt_t4 (List.mem_of_getElem? (i := 26) rfl) rfl
set_option maxRecDepth 20000 in
theorem wd_1048 : (Jvm.Cond.methodLink "FamineCodeModel" (176 : Nat) ({ cls := "FamineCodeModel", name := "refused", desc := "(I)I" } : Jvm.MethodName)) ∈ gtbl := gt_t4 (List.mem_of_getElem? (i := 27) rfl) rfl
set_option maxRecDepth 20000 in
theorem wd_1050 : (Jvm.Cond.instanceMethod ({ cls := "FamineCodeModel", name := "refused", desc := "(I)I" } : Jvm.MethodName)) ∈ gtbl := gt_t4 (List.mem_of_getElem? (i := 29) rfl) rfl
set_option maxRecDepth 20000 in
theorem wd_1051 : (Jvm.Cond.code ({ cls := "FamineCodeModel", name := "refused", desc := "(I)I" } : Jvm.MethodName) prog_12_method_4_code (2 : Nat) (Option.some Jvm.ClassFile.FieldType.int)) ∈ gtbl := gt_t4 (List.mem_of_getElem? (i := 30) rfl) rfl
set_option maxRecDepth 20000 in
theorem wd_1052 : (Jvm.Cond.methodLink "FamineCodeModel" (180 : Nat) ({ cls := "FamineCodeModel", name := "done", desc := "(I)I" } : Jvm.MethodName)) ∈ gtbl := gt_t4 (List.mem_of_getElem? (i := 31) rfl) rfl
set_option maxRecDepth 20000 in
theorem wd_1054 : (Jvm.Cond.instanceMethod ({ cls := "FamineCodeModel", name := "done", desc := "(I)I" } : Jvm.MethodName)) ∈ gtbl := gt_t4 (List.mem_of_getElem? (i := 33) rfl) rfl
set_option maxRecDepth 20000 in
theorem wd_1055 : (Jvm.Cond.code ({ cls := "FamineCodeModel", name := "done", desc := "(I)I" } : Jvm.MethodName) prog_12_method_5_code (2 : Nat) (Option.some Jvm.ClassFile.FieldType.int)) ∈ gtbl := gt_t4 (List.mem_of_getElem? (i := 34) rfl) rfl
set_option maxRecDepth 20000 in
theorem wd_1056 : (Jvm.Cond.methodLink "FamineCodeLaw" (22 : Nat) ({ cls := "FamineCodeModel", name := "people", desc := "(III)I" } : Jvm.MethodName)) ∈ gtbl := gt_t4 (List.mem_of_getElem? (i := 35) rfl) rfl
set_option maxRecDepth 20000 in
theorem wd_1057 : (Jvm.Cond.instanceMethod ({ cls := "FamineCodeModel", name := "people", desc := "(III)I" } : Jvm.MethodName)) ∈ gtbl := gt_t4 (List.mem_of_getElem? (i := 36) rfl) rfl
set_option maxRecDepth 20000 in
theorem wd_1058 : (Jvm.Cond.selects "FamineCodeModel" ({ cls := "FamineCodeModel", name := "people", desc := "(III)I" } : Jvm.MethodName) ({ cls := "FamineCodeModel", name := "people", desc := "(III)I" } : Jvm.MethodName)) ∈ gtbl := gt_t4 (List.mem_of_getElem? (i := 37) rfl) rfl
set_option maxRecDepth 20000 in
theorem wd_1059 : (Jvm.Cond.code ({ cls := "FamineCodeModel", name := "people", desc := "(III)I" } : Jvm.MethodName) prog_12_method_10_code (5 : Nat) (Option.some Jvm.ClassFile.FieldType.int)) ∈ gtbl := gt_t4 (List.mem_of_getElem? (i := 38) rfl) rfl
set_option maxRecDepth 20000 in
theorem wd_1060 : (Jvm.Cond.methodLink "FamineCodeModel" (187 : Nat) ({ cls := "FamineCodeModel", name := "isClass", desc := "(II)Z" } : Jvm.MethodName)) ∈ gtbl := gt_t4 (List.mem_of_getElem? (i := 39) rfl) rfl
set_option maxRecDepth 20000 in
theorem wd_1062 : (Jvm.Cond.instanceMethod ({ cls := "FamineCodeModel", name := "isClass", desc := "(II)Z" } : Jvm.MethodName)) ∈ gtbl := gt_t4 (List.mem_of_getElem? (i := 41) rfl) rfl
set_option maxRecDepth 20000 in
theorem wd_1063 : (Jvm.Cond.code ({ cls := "FamineCodeModel", name := "isClass", desc := "(II)Z" } : Jvm.MethodName) prog_12_method_9_code (3 : Nat) (Option.some Jvm.ClassFile.FieldType.boolean)) ∈ gtbl := gt_t4 (List.mem_of_getElem? (i := 42) rfl) rfl
set_option maxRecDepth 20000 in
theorem wd_1064 : (Jvm.Cond.methodLink "FamineCodeModel" (183 : Nat) ({ cls := "FamineCodeModel", name := "isDistrict", desc := "(I)Z" } : Jvm.MethodName)) ∈ gtbl := gt_t4 (List.mem_of_getElem? (i := 43) rfl) rfl
set_option maxRecDepth 20000 in
theorem wd_1066 : (Jvm.Cond.instanceMethod ({ cls := "FamineCodeModel", name := "isDistrict", desc := "(I)Z" } : Jvm.MethodName)) ∈ gtbl := gt_t4 (List.mem_of_getElem? (i := 45) rfl) rfl
set_option maxRecDepth 20000 in
theorem wd_1067 : (Jvm.Cond.code ({ cls := "FamineCodeModel", name := "isDistrict", desc := "(I)Z" } : Jvm.MethodName) prog_12_method_6_code (2 : Nat) (Option.some Jvm.ClassFile.FieldType.boolean)) ∈ gtbl := gt_t4 (List.mem_of_getElem? (i := 46) rfl) rfl
set_option maxRecDepth 20000 in
theorem wd_1068 : (Jvm.Cond.methodLink "FamineCodeLaw" (26 : Nat) ({ cls := "FamineCodeModel", name := "coins", desc := "(III)I" } : Jvm.MethodName)) ∈ gtbl := gt_t4 (List.mem_of_getElem? (i := 47) rfl) rfl
set_option maxRecDepth 20000 in
theorem wd_1069 : (Jvm.Cond.instanceMethod ({ cls := "FamineCodeModel", name := "coins", desc := "(III)I" } : Jvm.MethodName)) ∈ gtbl := gt_t4 (List.mem_of_getElem? (i := 48) rfl) rfl
set_option maxRecDepth 20000 in
theorem wd_1070 : (Jvm.Cond.selects "FamineCodeModel" ({ cls := "FamineCodeModel", name := "coins", desc := "(III)I" } : Jvm.MethodName) ({ cls := "FamineCodeModel", name := "coins", desc := "(III)I" } : Jvm.MethodName)) ∈ gtbl := gt_t4 (List.mem_of_getElem? (i := 49) rfl) rfl
set_option maxRecDepth 20000 in
theorem wd_1071 : (Jvm.Cond.code ({ cls := "FamineCodeModel", name := "coins", desc := "(III)I" } : Jvm.MethodName) prog_12_method_11_code (5 : Nat) (Option.some Jvm.ClassFile.FieldType.int)) ∈ gtbl := gt_t4 (List.mem_of_getElem? (i := 50) rfl) rfl
set_option maxRecDepth 20000 in
theorem wd_1072 : (Jvm.Cond.methodLink "FamineCodeLaw" (30 : Nat) ({ cls := "FamineCodeModel", name := "price", desc := "(II)I" } : Jvm.MethodName)) ∈ gtbl := gt_t4 (List.mem_of_getElem? (i := 51) rfl) rfl
set_option maxRecDepth 20000 in
theorem wd_1073 : (Jvm.Cond.instanceMethod ({ cls := "FamineCodeModel", name := "price", desc := "(II)I" } : Jvm.MethodName)) ∈ gtbl := gt_t4 (List.mem_of_getElem? (i := 52) rfl) rfl
set_option maxRecDepth 20000 in
theorem wd_1074 : (Jvm.Cond.selects "FamineCodeModel" ({ cls := "FamineCodeModel", name := "price", desc := "(II)I" } : Jvm.MethodName) ({ cls := "FamineCodeModel", name := "price", desc := "(II)I" } : Jvm.MethodName)) ∈ gtbl := gt_t4 (List.mem_of_getElem? (i := 53) rfl) rfl
set_option maxRecDepth 20000 in
theorem wd_1075 : (Jvm.Cond.code ({ cls := "FamineCodeModel", name := "price", desc := "(II)I" } : Jvm.MethodName) prog_12_method_12_code (4 : Nat) (Option.some Jvm.ClassFile.FieldType.int)) ∈ gtbl := gt_t4 (List.mem_of_getElem? (i := 54) rfl) rfl
set_option maxRecDepth 20000 in
theorem wd_1076 : (Jvm.Cond.methodLink "FamineCodeLaw" (35 : Nat) ({ cls := "FamineCodeModel", name := "wage", desc := "(I)I" } : Jvm.MethodName)) ∈ gtbl := gt_t4 (List.mem_of_getElem? (i := 55) rfl) rfl
set_option maxRecDepth 20000 in
theorem wd_1077 : (Jvm.Cond.instanceMethod ({ cls := "FamineCodeModel", name := "wage", desc := "(I)I" } : Jvm.MethodName)) ∈ gtbl := gt_t4 (List.mem_of_getElem? (i := 56) rfl) rfl
set_option maxRecDepth 20000 in
theorem wd_1078 : (Jvm.Cond.selects "FamineCodeModel" ({ cls := "FamineCodeModel", name := "wage", desc := "(I)I" } : Jvm.MethodName) ({ cls := "FamineCodeModel", name := "wage", desc := "(I)I" } : Jvm.MethodName)) ∈ gtbl := gt_t4 (List.mem_of_getElem? (i := 57) rfl) rfl
set_option maxRecDepth 20000 in
theorem wd_1079 : (Jvm.Cond.code ({ cls := "FamineCodeModel", name := "wage", desc := "(I)I" } : Jvm.MethodName) prog_12_method_13_code (3 : Nat) (Option.some Jvm.ClassFile.FieldType.int)) ∈ gtbl := gt_t4 (List.mem_of_getElem? (i := 58) rfl) rfl
set_option maxRecDepth 20000 in
theorem wd_1080 : (Jvm.Cond.methodLink "FamineCodeLaw" (40 : Nat) ({ cls := "FamineCodeModel", name := "sign", desc := "(IIII)I" } : Jvm.MethodName)) ∈ gtbl := gt_t4 (List.mem_of_getElem? (i := 59) rfl) rfl
set_option maxRecDepth 20000 in
theorem wd_1081 : (Jvm.Cond.instanceMethod ({ cls := "FamineCodeModel", name := "sign", desc := "(IIII)I" } : Jvm.MethodName)) ∈ gtbl := gt_t4 (List.mem_of_getElem? (i := 60) rfl) rfl
set_option maxRecDepth 20000 in
theorem wd_1082 : (Jvm.Cond.selects "FamineCodeModel" ({ cls := "FamineCodeModel", name := "sign", desc := "(IIII)I" } : Jvm.MethodName) ({ cls := "FamineCodeModel", name := "sign", desc := "(IIII)I" } : Jvm.MethodName)) ∈ gtbl := gt_t4 (List.mem_of_getElem? (i := 61) rfl) rfl
set_option maxRecDepth 20000 in
theorem wd_1083 : (Jvm.Cond.code ({ cls := "FamineCodeModel", name := "sign", desc := "(IIII)I" } : Jvm.MethodName) prog_12_method_15_code (5 : Nat) (Option.some Jvm.ClassFile.FieldType.int)) ∈ gtbl := gt_t4 (List.mem_of_getElem? (i := 62) rfl) rfl
set_option maxRecDepth 20000 in
theorem wd_1084 : (Jvm.Cond.methodLink "FamineCodeModel" (197 : Nat) ({ cls := "FamineCodeModel", name := "tells", desc := "(IIII)V" } : Jvm.MethodName)) ∈ gtbl := gt_t4 (List.mem_of_getElem? (i := 63) rfl) rfl
set_option maxRecDepth 20000 in
theorem wd_1086 : (Jvm.Cond.instanceMethod ({ cls := "FamineCodeModel", name := "tells", desc := "(IIII)V" } : Jvm.MethodName)) ∈ gtbl := gt_t4 (List.mem_of_getElem? (i := 65) rfl) rfl
set_option maxRecDepth 20000 in
theorem wd_1087 : (Jvm.Cond.code ({ cls := "FamineCodeModel", name := "tells", desc := "(IIII)V" } : Jvm.MethodName) prog_12_method_14_code (5 : Nat) (Option.none : Option Jvm.ClassFile.FieldType)) ∈ gtbl := gt_t4 (List.mem_of_getElem? (i := 66) rfl) rfl
set_option maxRecDepth 20000 in
theorem wd_1088 : (Jvm.Cond.methodLink "FamineCodeLaw" (45 : Nat) ({ cls := "FamineCodeModel", name := "line", desc := "(IIIZI)I" } : Jvm.MethodName)) ∈ gtbl := gt_t4 (List.mem_of_getElem? (i := 67) rfl) rfl
set_option maxRecDepth 20000 in
theorem wd_1089 : (Jvm.Cond.instanceMethod ({ cls := "FamineCodeModel", name := "line", desc := "(IIIZI)I" } : Jvm.MethodName)) ∈ gtbl := gt_t4 (List.mem_of_getElem? (i := 68) rfl) rfl
set_option maxRecDepth 20000 in
theorem wd_1090 : (Jvm.Cond.selects "FamineCodeModel" ({ cls := "FamineCodeModel", name := "line", desc := "(IIIZI)I" } : Jvm.MethodName) ({ cls := "FamineCodeModel", name := "line", desc := "(IIIZI)I" } : Jvm.MethodName)) ∈ gtbl := gt_t4 (List.mem_of_getElem? (i := 69) rfl) rfl
set_option maxRecDepth 20000 in
theorem wd_1091 : (Jvm.Cond.code ({ cls := "FamineCodeModel", name := "line", desc := "(IIIZI)I" } : Jvm.MethodName) prog_12_method_16_code (7 : Nat) (Option.some Jvm.ClassFile.FieldType.int)) ∈ gtbl := gt_t4 (List.mem_of_getElem? (i := 70) rfl) rfl
set_option maxRecDepth 20000 in
theorem wd_1092 : (Jvm.Cond.methodLink "FamineCodeLaw" (49 : Nat) ({ cls := "FamineCodeModel", name := "end", desc := "(I)I" } : Jvm.MethodName)) ∈ gtbl := gt_t4 (List.mem_of_getElem? (i := 71) rfl) rfl
set_option maxRecDepth 20000 in
theorem wd_1093 : (Jvm.Cond.instanceMethod ({ cls := "FamineCodeModel", name := "end", desc := "(I)I" } : Jvm.MethodName)) ∈ gtbl := gt_t4 (List.mem_of_getElem? (i := 72) rfl) rfl
set_option maxRecDepth 20000 in
theorem wd_1094 : (Jvm.Cond.selects "FamineCodeModel" ({ cls := "FamineCodeModel", name := "end", desc := "(I)I" } : Jvm.MethodName) ({ cls := "FamineCodeModel", name := "end", desc := "(I)I" } : Jvm.MethodName)) ∈ gtbl := gt_t4 (List.mem_of_getElem? (i := 73) rfl) rfl
set_option maxRecDepth 20000 in
theorem wd_1095 : (Jvm.Cond.code ({ cls := "FamineCodeModel", name := "end", desc := "(I)I" } : Jvm.MethodName) prog_12_method_17_code (2 : Nat) (Option.some Jvm.ClassFile.FieldType.int)) ∈ gtbl := gt_t4 (List.mem_of_getElem? (i := 74) rfl) rfl
set_option maxRecDepth 20000 in
theorem wd_1096 : (Jvm.Cond.methodLink "FamineCodeModel" (201 : Nat) ({ cls := "FamineCodeModel", name := "isLine", desc := "(I)Z" } : Jvm.MethodName)) ∈ gtbl := gt_t4 (List.mem_of_getElem? (i := 75) rfl) rfl
set_option maxRecDepth 20000 in
theorem wd_1098 : (Jvm.Cond.instanceMethod ({ cls := "FamineCodeModel", name := "isLine", desc := "(I)Z" } : Jvm.MethodName)) ∈ gtbl := gt_t4 (List.mem_of_getElem? (i := 77) rfl) rfl
set_option maxRecDepth 20000 in
theorem wd_1099 : (Jvm.Cond.code ({ cls := "FamineCodeModel", name := "isLine", desc := "(I)Z" } : Jvm.MethodName) prog_12_method_7_code (2 : Nat) (Option.some Jvm.ClassFile.FieldType.boolean)) ∈ gtbl := gt_t4 (List.mem_of_getElem? (i := 78) rfl) rfl
set_option maxRecDepth 20000 in
theorem wd_1100 : (Jvm.Cond.methodLink "FamineCodeLaw" (82 : Nat) ({ cls := "FamineCodeModel", name := "known", desc := "(IIII)I" } : Jvm.MethodName)) ∈ gtbl := gt_t4 (List.mem_of_getElem? (i := 79) rfl) rfl
set_option maxRecDepth 20000 in
theorem wd_1101 : (Jvm.Cond.instanceMethod ({ cls := "FamineCodeModel", name := "known", desc := "(IIII)I" } : Jvm.MethodName)) ∈ gtbl := gt_t4 (List.mem_of_getElem? (i := 80) rfl) rfl
set_option maxRecDepth 20000 in
theorem wd_1102 : (Jvm.Cond.selects "FamineCodeModel" ({ cls := "FamineCodeModel", name := "known", desc := "(IIII)I" } : Jvm.MethodName) ({ cls := "FamineCodeModel", name := "known", desc := "(IIII)I" } : Jvm.MethodName)) ∈ gtbl := gt_t4 (List.mem_of_getElem? (i := 81) rfl) rfl
set_option maxRecDepth 20000 in
theorem wd_1103 : (Jvm.Cond.code ({ cls := "FamineCodeModel", name := "known", desc := "(IIII)I" } : Jvm.MethodName) prog_12_method_19_code (5 : Nat) (Option.some Jvm.ClassFile.FieldType.int)) ∈ gtbl := gt_t4 (List.mem_of_getElem? (i := 82) rfl) rfl
set_option maxRecDepth 20000 in
theorem wd_1104 : (Jvm.Cond.methodLink "FamineCodeModel" (204 : Nat) ({ cls := "FamineCodeModel", name := "isWeek", desc := "(I)Z" } : Jvm.MethodName)) ∈ gtbl := gt_t4 (List.mem_of_getElem? (i := 83) rfl) rfl
set_option maxRecDepth 20000 in
theorem wd_1105 : (Jvm.Cond.static ({ cls := "FamineCodeModel", name := "isWeek", desc := "(I)Z" } : Jvm.MethodName)) ∈ gtbl := gt_t4 (List.mem_of_getElem? (i := 84) rfl) rfl
set_option maxRecDepth 20000 in
theorem wd_1106 : (Jvm.Cond.code ({ cls := "FamineCodeModel", name := "isWeek", desc := "(I)Z" } : Jvm.MethodName) prog_12_method_20_code (1 : Nat) (Option.some Jvm.ClassFile.FieldType.boolean)) ∈ gtbl := gt_t4 (List.mem_of_getElem? (i := 85) rfl) rfl
set_option maxRecDepth 20000 in
theorem wd_1107 : (Jvm.Cond.methodLink "FamineCodeModel" (207 : Nat) ({ cls := "FamineCodeModel", name := "signKnown", desc := "(IIII)I" } : Jvm.MethodName)) ∈ gtbl := gt_t4 (List.mem_of_getElem? (i := 86) rfl) rfl
set_option maxRecDepth 20000 in
theorem wd_1109 : (Jvm.Cond.instanceMethod ({ cls := "FamineCodeModel", name := "signKnown", desc := "(IIII)I" } : Jvm.MethodName)) ∈ gtbl := gt_t4 (List.mem_of_getElem? (i := 88) rfl) rfl
set_option maxRecDepth 20000 in
theorem wd_1110 : (Jvm.Cond.code ({ cls := "FamineCodeModel", name := "signKnown", desc := "(IIII)I" } : Jvm.MethodName) prog_12_method_18_code (6 : Nat) (Option.some Jvm.ClassFile.FieldType.int)) ∈ gtbl := gt_t4 (List.mem_of_getElem? (i := 89) rfl) rfl
set_option maxRecDepth 20000 in
theorem wd_1111 : (Jvm.Cond.methodLink "FamineCodeLaw" (86 : Nat) ({ cls := "FamineCodeModel", name := "holds", desc := "(IIII)I" } : Jvm.MethodName)) ∈ gtbl := gt_t4 (List.mem_of_getElem? (i := 90) rfl) rfl
set_option maxRecDepth 20000 in
theorem wd_1112 : (Jvm.Cond.instanceMethod ({ cls := "FamineCodeModel", name := "holds", desc := "(IIII)I" } : Jvm.MethodName)) ∈ gtbl := gt_t4 (List.mem_of_getElem? (i := 91) rfl) rfl
set_option maxRecDepth 20000 in
theorem wd_1113 : (Jvm.Cond.selects "FamineCodeModel" ({ cls := "FamineCodeModel", name := "holds", desc := "(IIII)I" } : Jvm.MethodName) ({ cls := "FamineCodeModel", name := "holds", desc := "(IIII)I" } : Jvm.MethodName)) ∈ gtbl := gt_t4 (List.mem_of_getElem? (i := 92) rfl) rfl
set_option maxRecDepth 20000 in
theorem wd_1114 : (Jvm.Cond.code ({ cls := "FamineCodeModel", name := "holds", desc := "(IIII)I" } : Jvm.MethodName) prog_12_method_23_code (5 : Nat) (Option.some Jvm.ClassFile.FieldType.int)) ∈ gtbl := gt_t4 (List.mem_of_getElem? (i := 93) rfl) rfl
set_option maxRecDepth 20000 in
theorem wd_1115 : (Jvm.Cond.methodLink "FamineCodeModel" (215 : Nat) ({ cls := "FamineCodeModel", name := "holdsAt", desc := "(IIII)Z" } : Jvm.MethodName)) ∈ gtbl := gt_t4 (List.mem_of_getElem? (i := 94) rfl) rfl
set_option maxRecDepth 20000 in
theorem wd_1117 : (Jvm.Cond.instanceMethod ({ cls := "FamineCodeModel", name := "holdsAt", desc := "(IIII)Z" } : Jvm.MethodName)) ∈ gtbl := gt_t4 (List.mem_of_getElem? (i := 96) rfl) rfl
set_option maxRecDepth 20000 in
theorem wd_1118 : (Jvm.Cond.code ({ cls := "FamineCodeModel", name := "holdsAt", desc := "(IIII)Z" } : Jvm.MethodName) prog_12_method_22_code (6 : Nat) (Option.some Jvm.ClassFile.FieldType.boolean)) ∈ gtbl := gt_t4 (List.mem_of_getElem? (i := 97) rfl) rfl
set_option maxRecDepth 20000 in
theorem wd_1119 : (Jvm.Cond.methodLink "FamineCodeModel" (211 : Nat) ({ cls := "FamineCodeModel", name := "tests", desc := "(IIII)Z" } : Jvm.MethodName)) ∈ gtbl := gt_t4 (List.mem_of_getElem? (i := 98) rfl) rfl
set_option maxRecDepth 20000 in
theorem wd_1121 : (Jvm.Cond.instanceMethod ({ cls := "FamineCodeModel", name := "tests", desc := "(IIII)Z" } : Jvm.MethodName)) ∈ gtbl := gt_t4 (List.mem_of_getElem? (i := 100) rfl) rfl
set_option maxRecDepth 20000 in
theorem wd_1122 : (Jvm.Cond.code ({ cls := "FamineCodeModel", name := "tests", desc := "(IIII)Z" } : Jvm.MethodName) prog_12_method_21_code (10 : Nat) (Option.some Jvm.ClassFile.FieldType.boolean)) ∈ gtbl := gt_t4 (List.mem_of_getElem? (i := 101) rfl) rfl
set_option maxRecDepth 20000 in
theorem wd_1123 : (Jvm.Cond.methodLink "FamineCodeLaw" (90 : Nat) ({ cls := "FamineCodeModel", name := "open", desc := "(III)I" } : Jvm.MethodName)) ∈ gtbl := gt_t4 (List.mem_of_getElem? (i := 102) rfl) rfl
set_option maxRecDepth 20000 in
theorem wd_1124 : (Jvm.Cond.instanceMethod ({ cls := "FamineCodeModel", name := "open", desc := "(III)I" } : Jvm.MethodName)) ∈ gtbl := gt_t4 (List.mem_of_getElem? (i := 103) rfl) rfl
set_option maxRecDepth 20000 in
theorem wd_1125 : (Jvm.Cond.selects "FamineCodeModel" ({ cls := "FamineCodeModel", name := "open", desc := "(III)I" } : Jvm.MethodName) ({ cls := "FamineCodeModel", name := "open", desc := "(III)I" } : Jvm.MethodName)) ∈ gtbl := gt_t4 (List.mem_of_getElem? (i := 104) rfl) rfl
set_option maxRecDepth 20000 in
theorem wd_1126 : (Jvm.Cond.code ({ cls := "FamineCodeModel", name := "open", desc := "(III)I" } : Jvm.MethodName) prog_12_method_26_code (4 : Nat) (Option.some Jvm.ClassFile.FieldType.int)) ∈ gtbl := gt_t4 (List.mem_of_getElem? (i := 105) rfl) rfl
set_option maxRecDepth 20000 in
theorem wd_1127 : (Jvm.Cond.methodLink "FamineCodeModel" (221 : Nat) ({ cls := "FamineCodeModel", name := "bits", desc := "(IIIII)I" } : Jvm.MethodName)) ∈ gtbl := gt_t4 (List.mem_of_getElem? (i := 106) rfl) rfl
set_option maxRecDepth 20000 in
theorem wd_1129 : (Jvm.Cond.instanceMethod ({ cls := "FamineCodeModel", name := "bits", desc := "(IIIII)I" } : Jvm.MethodName)) ∈ gtbl := gt_t4 (List.mem_of_getElem? (i := 108) rfl) rfl
set_option maxRecDepth 20000 in
theorem wd_1130 : (Jvm.Cond.code ({ cls := "FamineCodeModel", name := "bits", desc := "(IIIII)I" } : Jvm.MethodName) prog_12_method_25_code (8 : Nat) (Option.some Jvm.ClassFile.FieldType.int)) ∈ gtbl := gt_t4 (List.mem_of_getElem? (i := 109) rfl) rfl
set_option maxRecDepth 20000 in
theorem wd_1131 : (Jvm.Cond.methodLink "FamineCodeModel" (218 : Nat) ({ cls := "FamineCodeModel", name := "isInForce", desc := "(II)Z" } : Jvm.MethodName)) ∈ gtbl := gt_t4 (List.mem_of_getElem? (i := 110) rfl) rfl
set_option maxRecDepth 20000 in
theorem wd_1133 : (Jvm.Cond.instanceMethod ({ cls := "FamineCodeModel", name := "isInForce", desc := "(II)Z" } : Jvm.MethodName)) ∈ gtbl := gt_t4 (List.mem_of_getElem? (i := 112) rfl) rfl
set_option maxRecDepth 20000 in
theorem wd_1134 : (Jvm.Cond.code ({ cls := "FamineCodeModel", name := "isInForce", desc := "(II)Z" } : Jvm.MethodName) prog_12_method_24_code (3 : Nat) (Option.some Jvm.ClassFile.FieldType.boolean)) ∈ gtbl := gt_t4 (List.mem_of_getElem? (i := 113) rfl) rfl
set_option maxRecDepth 20000 in
theorem wd_1135 : (Jvm.Cond.methodLink "FamineCodeLaw" (94 : Nat) ({ cls := "FamineCodeModel", name := "why", desc := "(IIII)I" } : Jvm.MethodName)) ∈ gtbl := gt_t4 (List.mem_of_getElem? (i := 114) rfl) rfl
set_option maxRecDepth 20000 in
theorem wd_1136 : (Jvm.Cond.instanceMethod ({ cls := "FamineCodeModel", name := "why", desc := "(IIII)I" } : Jvm.MethodName)) ∈ gtbl := gt_t4 (List.mem_of_getElem? (i := 115) rfl) rfl
set_option maxRecDepth 20000 in
theorem wd_1137 : (Jvm.Cond.selects "FamineCodeModel" ({ cls := "FamineCodeModel", name := "why", desc := "(IIII)I" } : Jvm.MethodName) ({ cls := "FamineCodeModel", name := "why", desc := "(IIII)I" } : Jvm.MethodName)) ∈ gtbl := gt_t4 (List.mem_of_getElem? (i := 116) rfl) rfl
set_option maxRecDepth 20000 in
theorem wd_1138 : (Jvm.Cond.code ({ cls := "FamineCodeModel", name := "why", desc := "(IIII)I" } : Jvm.MethodName) prog_12_method_27_code (6 : Nat) (Option.some Jvm.ClassFile.FieldType.int)) ∈ gtbl := gt_t4 (List.mem_of_getElem? (i := 117) rfl) rfl
set_option maxRecDepth 20000 in
theorem wd_1139 : (Jvm.Cond.methodLink "FamineCodeLaw" (98 : Nat) ({ cls := "FamineCodeModel", name := "was", desc := "(II)I" } : Jvm.MethodName)) ∈ gtbl := gt_t4 (List.mem_of_getElem? (i := 118) rfl) rfl
set_option maxRecDepth 20000 in
theorem wd_1140 : (Jvm.Cond.instanceMethod ({ cls := "FamineCodeModel", name := "was", desc := "(II)I" } : Jvm.MethodName)) ∈ gtbl := gt_t4 (List.mem_of_getElem? (i := 119) rfl) rfl
set_option maxRecDepth 20000 in
theorem wd_1141 : (Jvm.Cond.selects "FamineCodeModel" ({ cls := "FamineCodeModel", name := "was", desc := "(II)I" } : Jvm.MethodName) ({ cls := "FamineCodeModel", name := "was", desc := "(II)I" } : Jvm.MethodName)) ∈ gtbl := gt_t4 (List.mem_of_getElem? (i := 120) rfl) rfl
set_option maxRecDepth 20000 in
theorem wd_1142 : (Jvm.Cond.code ({ cls := "FamineCodeModel", name := "was", desc := "(II)I" } : Jvm.MethodName) prog_12_method_28_code (3 : Nat) (Option.some Jvm.ClassFile.FieldType.int)) ∈ gtbl := gt_t4 (List.mem_of_getElem? (i := 121) rfl) rfl
set_option maxRecDepth 20000 in
theorem wd_1143 : (Jvm.Cond.methodLink "FamineCodeLaw" (54 : Nat) ({ cls := "FamineCodeModel", name := "week", desc := "()I" } : Jvm.MethodName)) ∈ gtbl := gt_t4 (List.mem_of_getElem? (i := 122) rfl) rfl
set_option maxRecDepth 20000 in
theorem wd_1144 : (Jvm.Cond.instanceMethod ({ cls := "FamineCodeModel", name := "week", desc := "()I" } : Jvm.MethodName)) ∈ gtbl := gt_t4 (List.mem_of_getElem? (i := 123) rfl) rfl
set_option maxRecDepth 20000 in
theorem wd_1145 : (Jvm.Cond.selects "FamineCodeModel" ({ cls := "FamineCodeModel", name := "week", desc := "()I" } : Jvm.MethodName) ({ cls := "FamineCodeModel", name := "week", desc := "()I" } : Jvm.MethodName)) ∈ gtbl := gt_t4 (List.mem_of_getElem? (i := 124) rfl) rfl
set_option maxRecDepth 20000 in
theorem wd_1146 : (Jvm.Cond.code ({ cls := "FamineCodeModel", name := "week", desc := "()I" } : Jvm.MethodName) prog_12_method_34_code (4 : Nat) (Option.some Jvm.ClassFile.FieldType.int)) ∈ gtbl := gt_t4 (List.mem_of_getElem? (i := 125) rfl) rfl
set_option maxRecDepth 20000 in
theorem wd_1147 : (Jvm.Cond.methodLink "FamineCodeModel" (248 : Nat) ({ cls := "FamineCodeModel", name := "lives", desc := "(II)I" } : Jvm.MethodName)) ∈ gtbl := gt_t4 (List.mem_of_getElem? (i := 126) rfl) rfl
set_option maxRecDepth 20000 in
theorem wd_1149 : (Jvm.Cond.instanceMethod ({ cls := "FamineCodeModel", name := "lives", desc := "(II)I" } : Jvm.MethodName)) ∈ gtbl := gt_t4 (List.mem_of_getElem? (i := 128) rfl) rfl
set_option maxRecDepth 20000 in
theorem wd_1150 : (Jvm.Cond.code ({ cls := "FamineCodeModel", name := "lives", desc := "(II)I" } : Jvm.MethodName) prog_12_method_33_code (10 : Nat) (Option.some Jvm.ClassFile.FieldType.int)) ∈ gtbl := gt_t4 (List.mem_of_getElem? (i := 129) rfl) rfl
set_option maxRecDepth 20000 in
theorem wd_1151 : (Jvm.Cond.methodLink "FamineCodeModel" (235 : Nat) ({ cls := "FamineCodeModel", name := "least", desc := "(II)I" } : Jvm.MethodName)) ∈ gtbl := gt_t4 (List.mem_of_getElem? (i := 130) rfl) rfl
set_option maxRecDepth 20000 in
theorem wd_1153 : (Jvm.Cond.instanceMethod ({ cls := "FamineCodeModel", name := "least", desc := "(II)I" } : Jvm.MethodName)) ∈ gtbl := gt_t4 (List.mem_of_getElem? (i := 132) rfl) rfl
set_option maxRecDepth 20000 in
theorem wd_1154 : (Jvm.Cond.code ({ cls := "FamineCodeModel", name := "least", desc := "(II)I" } : Jvm.MethodName) prog_12_method_32_code (3 : Nat) (Option.some Jvm.ClassFile.FieldType.int)) ∈ gtbl := gt_t4 (List.mem_of_getElem? (i := 133) rfl) rfl
set_option maxRecDepth 20000 in
theorem wd_1155 : (Jvm.Cond.methodLink "FamineCodeModel" (239 : Nat) ({ cls := "FamineCodeModel", name := "pays", desc := "(II)V" } : Jvm.MethodName)) ∈ gtbl := gt_t4 (List.mem_of_getElem? (i := 134) rfl) rfl
set_option maxRecDepth 20000 in
theorem wd_1157 : (Jvm.Cond.instanceMethod ({ cls := "FamineCodeModel", name := "pays", desc := "(II)V" } : Jvm.MethodName)) ∈ gtbl := gt_t4 (List.mem_of_getElem? (i := 136) rfl) rfl
set_option maxRecDepth 20000 in
theorem wd_1158 : (Jvm.Cond.code ({ cls := "FamineCodeModel", name := "pays", desc := "(II)V" } : Jvm.MethodName) prog_12_method_30_code (6 : Nat) (Option.none : Option Jvm.ClassFile.FieldType)) ∈ gtbl := gt_t4 (List.mem_of_getElem? (i := 137) rfl) rfl
set_option maxRecDepth 20000 in
theorem wd_1159 : (Jvm.Cond.methodLink "FamineCodeModel" (225 : Nat) ({ cls := "FamineCodeModel", name := "gets", desc := "(II)V" } : Jvm.MethodName)) ∈ gtbl := gt_t4 (List.mem_of_getElem? (i := 138) rfl) rfl
set_option maxRecDepth 20000 in
theorem wd_1161 : (Jvm.Cond.instanceMethod ({ cls := "FamineCodeModel", name := "gets", desc := "(II)V" } : Jvm.MethodName)) ∈ gtbl := gt_t4 (List.mem_of_getElem? (i := 140) rfl) rfl
set_option maxRecDepth 20000 in
theorem wd_1162 : (Jvm.Cond.code ({ cls := "FamineCodeModel", name := "gets", desc := "(II)V" } : Jvm.MethodName) prog_12_method_29_code (3 : Nat) (Option.none : Option Jvm.ClassFile.FieldType)) ∈ gtbl := gt_t4 (List.mem_of_getElem? (i := 141) rfl) rfl
set_option maxRecDepth 20000 in
theorem wd_1163 : (Jvm.Cond.methodLink "FamineCodeModel" (242 : Nat) ({ cls := "FamineCodeModel", name := "lends", desc := "(II)V" } : Jvm.MethodName)) ∈ gtbl := gt_t4 (List.mem_of_getElem? (i := 142) rfl) rfl
set_option maxRecDepth 20000 in
theorem wd_1165 : (Jvm.Cond.instanceMethod ({ cls := "FamineCodeModel", name := "lends", desc := "(II)V" } : Jvm.MethodName)) ∈ gtbl := gt_t4 (List.mem_of_getElem? (i := 144) rfl) rfl
set_option maxRecDepth 20000 in
theorem wd_1166 : (Jvm.Cond.code ({ cls := "FamineCodeModel", name := "lends", desc := "(II)V" } : Jvm.MethodName) prog_12_method_31_code (4 : Nat) (Option.none : Option Jvm.ClassFile.FieldType)) ∈ gtbl := gt_t4 (List.mem_of_getElem? (i := 145) rfl) rfl
set_option maxRecDepth 20000 in
theorem wd_1167 : (Jvm.Cond.methodLink "FamineCodeLaw" (58 : Nat) ({ cls := "FamineCodeModel", name := "way", desc := "(IIII)I" } : Jvm.MethodName)) ∈ gtbl := gt_t4 (List.mem_of_getElem? (i := 146) rfl) rfl
set_option maxRecDepth 20000 in
theorem wd_1168 : (Jvm.Cond.instanceMethod ({ cls := "FamineCodeModel", name := "way", desc := "(IIII)I" } : Jvm.MethodName)) ∈ gtbl := gt_t4 (List.mem_of_getElem? (i := 147) rfl) rfl
set_option maxRecDepth 20000 in
theorem wd_1169 : (Jvm.Cond.selects "FamineCodeModel" ({ cls := "FamineCodeModel", name := "way", desc := "(IIII)I" } : Jvm.MethodName) ({ cls := "FamineCodeModel", name := "way", desc := "(IIII)I" } : Jvm.MethodName)) ∈ gtbl := gt_t4 (List.mem_of_getElem? (i := 148) rfl) rfl
set_option maxRecDepth 20000 in
theorem wd_1170 : (Jvm.Cond.code ({ cls := "FamineCodeModel", name := "way", desc := "(IIII)I" } : Jvm.MethodName) prog_12_method_35_code (5 : Nat) (Option.some Jvm.ClassFile.FieldType.int)) ∈ gtbl := gt_t4 (List.mem_of_getElem? (i := 149) rfl) rfl
set_option maxRecDepth 20000 in
theorem wd_1171 : (Jvm.Cond.methodLink "FamineCodeLaw" (62 : Nat) ({ cls := "FamineCodeModel", name := "work", desc := "(III)I" } : Jvm.MethodName)) ∈ gtbl := gt_t4 (List.mem_of_getElem? (i := 150) rfl) rfl
set_option maxRecDepth 20000 in
theorem wd_1172 : (Jvm.Cond.instanceMethod ({ cls := "FamineCodeModel", name := "work", desc := "(III)I" } : Jvm.MethodName)) ∈ gtbl := gt_t4 (List.mem_of_getElem? (i := 151) rfl) rfl
set_option maxRecDepth 20000 in
theorem wd_1173 : (Jvm.Cond.selects "FamineCodeModel" ({ cls := "FamineCodeModel", name := "work", desc := "(III)I" } : Jvm.MethodName) ({ cls := "FamineCodeModel", name := "work", desc := "(III)I" } : Jvm.MethodName)) ∈ gtbl := gt_t4 (List.mem_of_getElem? (i := 152) rfl) rfl
set_option maxRecDepth 20000 in
theorem wd_1174 : (Jvm.Cond.code ({ cls := "FamineCodeModel", name := "work", desc := "(III)I" } : Jvm.MethodName) prog_12_method_36_code (4 : Nat) (Option.some Jvm.ClassFile.FieldType.int)) ∈ gtbl := gt_t4 (List.mem_of_getElem? (i := 153) rfl) rfl
set_option maxRecDepth 20000 in
theorem wd_1175 : (Jvm.Cond.methodLink "FamineCodeLaw" (106 : Nat) ({ cls := "FamineCodeModel", name := "load", desc := "(III)I" } : Jvm.MethodName)) ∈ gtbl := gt_t4 (List.mem_of_getElem? (i := 154) rfl) rfl
set_option maxRecDepth 20000 in
theorem wd_1176 : (Jvm.Cond.instanceMethod ({ cls := "FamineCodeModel", name := "load", desc := "(III)I" } : Jvm.MethodName)) ∈ gtbl := gt_t4 (List.mem_of_getElem? (i := 155) rfl) rfl
set_option maxRecDepth 20000 in
theorem wd_1177 : (Jvm.Cond.selects "FamineCodeModel" ({ cls := "FamineCodeModel", name := "load", desc := "(III)I" } : Jvm.MethodName) ({ cls := "FamineCodeModel", name := "load", desc := "(III)I" } : Jvm.MethodName)) ∈ gtbl := gt_t4 (List.mem_of_getElem? (i := 156) rfl) rfl
set_option maxRecDepth 20000 in
theorem wd_1178 : (Jvm.Cond.code ({ cls := "FamineCodeModel", name := "load", desc := "(III)I" } : Jvm.MethodName) prog_12_method_44_code (5 : Nat) (Option.some Jvm.ClassFile.FieldType.int)) ∈ gtbl := gt_t4 (List.mem_of_getElem? (i := 157) rfl) rfl
set_option maxRecDepth 20000 in
theorem wd_1179 : (Jvm.Cond.methodLink "FamineCodeModel" (275 : Nat) ({ cls := "FamineCodeModel", name := "isLoad", desc := "(III)Z" } : Jvm.MethodName)) ∈ gtbl := gt_t4 (List.mem_of_getElem? (i := 158) rfl) rfl
set_option maxRecDepth 20000 in
theorem wd_1181 : (Jvm.Cond.instanceMethod ({ cls := "FamineCodeModel", name := "isLoad", desc := "(III)Z" } : Jvm.MethodName)) ∈ gtbl := gt_t4 (List.mem_of_getElem? (i := 160) rfl) rfl
set_option maxRecDepth 20000 in
theorem wd_1182 : (Jvm.Cond.code ({ cls := "FamineCodeModel", name := "isLoad", desc := "(III)Z" } : Jvm.MethodName) prog_12_method_42_code (4 : Nat) (Option.some Jvm.ClassFile.FieldType.boolean)) ∈ gtbl := gt_t4 (List.mem_of_getElem? (i := 161) rfl) rfl
set_option maxRecDepth 20000 in
theorem wd_1183 : (Jvm.Cond.methodLink "FamineCodeModel" (278 : Nat) ({ cls := "FamineCodeModel", name := "findLoad", desc := "(III)I" } : Jvm.MethodName)) ∈ gtbl := gt_t4 (List.mem_of_getElem? (i := 162) rfl) rfl
set_option maxRecDepth 20000 in
theorem wd_1185 : (Jvm.Cond.instanceMethod ({ cls := "FamineCodeModel", name := "findLoad", desc := "(III)I" } : Jvm.MethodName)) ∈ gtbl := gt_t4 (List.mem_of_getElem? (i := 164) rfl) rfl
set_option maxRecDepth 20000 in
theorem wd_1186 : (Jvm.Cond.code ({ cls := "FamineCodeModel", name := "findLoad", desc := "(III)I" } : Jvm.MethodName) prog_12_method_43_code (8 : Nat) (Option.some Jvm.ClassFile.FieldType.int)) ∈ gtbl := gt_t4 (List.mem_of_getElem? (i := 165) rfl) rfl
set_option maxRecDepth 20000 in
theorem wd_1187 : (Jvm.Cond.methodLink "FamineCodeModel" (271 : Nat) ({ cls := "FamineCodeModel", name := "flow", desc := "(III)I" } : Jvm.MethodName)) ∈ gtbl := gt_t4 (List.mem_of_getElem? (i := 166) rfl) rfl
set_option maxRecDepth 20000 in
theorem wd_1189 : (Jvm.Cond.instanceMethod ({ cls := "FamineCodeModel", name := "flow", desc := "(III)I" } : Jvm.MethodName)) ∈ gtbl := gt_t4 (List.mem_of_getElem? (i := 168) rfl) rfl
set_option maxRecDepth 20000 in
theorem wd_1190 : (Jvm.Cond.code ({ cls := "FamineCodeModel", name := "flow", desc := "(III)I" } : Jvm.MethodName) prog_12_method_41_code (7 : Nat) (Option.some Jvm.ClassFile.FieldType.int)) ∈ gtbl := gt_t4 (List.mem_of_getElem? (i := 169) rfl) rfl
set_option maxRecDepth 20000 in
theorem wd_1191 : (Jvm.Cond.methodLink "FamineCodeModel" (261 : Nat) ({ cls := "FamineCodeModel", name := "findFar", desc := "(I)V" } : Jvm.MethodName)) ∈ gtbl := gt_t4 (List.mem_of_getElem? (i := 170) rfl) rfl
set_option maxRecDepth 20000 in
theorem wd_1193 : (Jvm.Cond.instanceMethod ({ cls := "FamineCodeModel", name := "findFar", desc := "(I)V" } : Jvm.MethodName)) ∈ gtbl := gt_t4 (List.mem_of_getElem? (i := 172) rfl) rfl
set_option maxRecDepth 20000 in
theorem wd_1194 : (Jvm.Cond.code ({ cls := "FamineCodeModel", name := "findFar", desc := "(I)V" } : Jvm.MethodName) prog_12_method_38_code (4 : Nat) (Option.none : Option Jvm.ClassFile.FieldType)) ∈ gtbl := gt_t4 (List.mem_of_getElem? (i := 173) rfl) rfl
set_option maxRecDepth 20000 in
theorem wd_1195 : (Jvm.Cond.constant "FamineCodeModel" (257 : Nat) (1000000000 : Int32)) ∈ gtbl := gt_t4 (List.mem_of_getElem? (i := 174) rfl) rfl
set_option maxRecDepth 20000 in
theorem wd_1196 : (Jvm.Cond.methodLink "FamineCodeModel" (258 : Nat) ({ cls := "FamineCodeModel", name := "reaches", desc := "(IIII)V" } : Jvm.MethodName)) ∈ gtbl := gt_t4 (List.mem_of_getElem? (i := 175) rfl) rfl
set_option maxRecDepth 20000 in
theorem wd_1198 : (Jvm.Cond.instanceMethod ({ cls := "FamineCodeModel", name := "reaches", desc := "(IIII)V" } : Jvm.MethodName)) ∈ gtbl := gt_t4 (List.mem_of_getElem? (i := 177) rfl) rfl
set_option maxRecDepth 20000 in
theorem wd_1199 : (Jvm.Cond.code ({ cls := "FamineCodeModel", name := "reaches", desc := "(IIII)V" } : Jvm.MethodName) prog_12_method_37_code (5 : Nat) (Option.none : Option Jvm.ClassFile.FieldType)) ∈ gtbl := gt_t4 (List.mem_of_getElem? (i := 178) rfl) rfl
set_option maxRecDepth 20000 in
theorem wd_1200 : (Jvm.Cond.methodLink "FamineCodeModel" (265 : Nat) ({ cls := "FamineCodeModel", name := "widest", desc := "(II)I" } : Jvm.MethodName)) ∈ gtbl := gt_t4 (List.mem_of_getElem? (i := 179) rfl) rfl
set_option maxRecDepth 20000 in
theorem wd_1202 : (Jvm.Cond.instanceMethod ({ cls := "FamineCodeModel", name := "widest", desc := "(II)I" } : Jvm.MethodName)) ∈ gtbl := gt_t4 (List.mem_of_getElem? (i := 181) rfl) rfl
set_option maxRecDepth 20000 in
theorem wd_1203 : (Jvm.Cond.code ({ cls := "FamineCodeModel", name := "widest", desc := "(II)I" } : Jvm.MethodName) prog_12_method_39_code (6 : Nat) (Option.some Jvm.ClassFile.FieldType.int)) ∈ gtbl := gt_t4 (List.mem_of_getElem? (i := 182) rfl) rfl
set_option maxRecDepth 20000 in
theorem wd_1204 : (Jvm.Cond.methodLink "FamineCodeModel" (268 : Nat) ({ cls := "FamineCodeModel", name := "goes", desc := "(II)V" } : Jvm.MethodName)) ∈ gtbl := gt_t4 (List.mem_of_getElem? (i := 183) rfl) rfl
set_option maxRecDepth 20000 in
theorem wd_1206 : (Jvm.Cond.instanceMethod ({ cls := "FamineCodeModel", name := "goes", desc := "(II)V" } : Jvm.MethodName)) ∈ gtbl := gt_t4 (List.mem_of_getElem? (i := 185) rfl) rfl
set_option maxRecDepth 20000 in
theorem wd_1207 : (Jvm.Cond.code ({ cls := "FamineCodeModel", name := "goes", desc := "(II)V" } : Jvm.MethodName) prog_12_method_40_code (5 : Nat) (Option.none : Option Jvm.ClassFile.FieldType)) ∈ gtbl := gt_t4 (List.mem_of_getElem? (i := 186) rfl) rfl
set_option maxRecDepth 20000 in
theorem wd_1208 : (Jvm.Cond.methodLink "FamineCodeLaw" (110 : Nat) ({ cls := "FamineCodeModel", name := "loaded", desc := "(IIII)I" } : Jvm.MethodName)) ∈ gtbl := gt_t4 (List.mem_of_getElem? (i := 187) rfl) rfl
set_option maxRecDepth 20000 in
theorem wd_1209 : (Jvm.Cond.instanceMethod ({ cls := "FamineCodeModel", name := "loaded", desc := "(IIII)I" } : Jvm.MethodName)) ∈ gtbl := gt_t4 (List.mem_of_getElem? (i := 188) rfl) rfl
set_option maxRecDepth 20000 in
theorem wd_1210 : (Jvm.Cond.selects "FamineCodeModel" ({ cls := "FamineCodeModel", name := "loaded", desc := "(IIII)I" } : Jvm.MethodName) ({ cls := "FamineCodeModel", name := "loaded", desc := "(IIII)I" } : Jvm.MethodName)) ∈ gtbl := gt_t4 (List.mem_of_getElem? (i := 189) rfl) rfl
set_option maxRecDepth 20000 in
theorem wd_1211 : (Jvm.Cond.code ({ cls := "FamineCodeModel", name := "loaded", desc := "(IIII)I" } : Jvm.MethodName) prog_12_method_45_code (5 : Nat) (Option.some Jvm.ClassFile.FieldType.int)) ∈ gtbl := gt_t4 (List.mem_of_getElem? (i := 190) rfl) rfl
set_option maxRecDepth 20000 in
theorem wd_1212 : (Jvm.Cond.methodLink "FamineCodeLaw" (66 : Nat) ({ cls := "FamineCodeModel", name := "bring", desc := "(III)I" } : Jvm.MethodName)) ∈ gtbl := gt_t4 (List.mem_of_getElem? (i := 191) rfl) rfl
set_option maxRecDepth 20000 in
theorem wd_1213 : (Jvm.Cond.instanceMethod ({ cls := "FamineCodeModel", name := "bring", desc := "(III)I" } : Jvm.MethodName)) ∈ gtbl := gt_t4 (List.mem_of_getElem? (i := 192) rfl) rfl
set_option maxRecDepth 20000 in
theorem wd_1214 : (Jvm.Cond.selects "FamineCodeModel" ({ cls := "FamineCodeModel", name := "bring", desc := "(III)I" } : Jvm.MethodName) ({ cls := "FamineCodeModel", name := "bring", desc := "(III)I" } : Jvm.MethodName)) ∈ gtbl := gt_t4 (List.mem_of_getElem? (i := 193) rfl) rfl
set_option maxRecDepth 20000 in
theorem wd_1215 : (Jvm.Cond.code ({ cls := "FamineCodeModel", name := "bring", desc := "(III)I" } : Jvm.MethodName) prog_12_method_46_code (6 : Nat) (Option.some Jvm.ClassFile.FieldType.int)) ∈ gtbl := gt_t4 (List.mem_of_getElem? (i := 194) rfl) rfl
set_option maxRecDepth 20000 in
theorem wd_1216 : (Jvm.Cond.methodLink "FamineCodeLaw" (114 : Nat) ({ cls := "FamineCodeModel", name := "fewest", desc := "(III)I" } : Jvm.MethodName)) ∈ gtbl := gt_t4 (List.mem_of_getElem? (i := 195) rfl) rfl
set_option maxRecDepth 20000 in
theorem wd_1217 : (Jvm.Cond.instanceMethod ({ cls := "FamineCodeModel", name := "fewest", desc := "(III)I" } : Jvm.MethodName)) ∈ gtbl := gt_t4 (List.mem_of_getElem? (i := 196) rfl) rfl
set_option maxRecDepth 20000 in
theorem wd_1218 : (Jvm.Cond.selects "FamineCodeModel" ({ cls := "FamineCodeModel", name := "fewest", desc := "(III)I" } : Jvm.MethodName) ({ cls := "FamineCodeModel", name := "fewest", desc := "(III)I" } : Jvm.MethodName)) ∈ gtbl := gt_t4 (List.mem_of_getElem? (i := 197) rfl) rfl
set_option maxRecDepth 20000 in
theorem wd_1219 : (Jvm.Cond.code ({ cls := "FamineCodeModel", name := "fewest", desc := "(III)I" } : Jvm.MethodName) prog_12_method_50_code (9 : Nat) (Option.some Jvm.ClassFile.FieldType.int)) ∈ gtbl := gt_t4 (List.mem_of_getElem? (i := 198) rfl) rfl
set_option maxRecDepth 20000 in
theorem wd_1220 : (Jvm.Cond.methodLink "FamineCodeModel" (281 : Nat) ({ cls := "FamineCodeModel", name := "reachedBy", desc := "(II)I" } : Jvm.MethodName)) ∈ gtbl := gt_t4 (List.mem_of_getElem? (i := 199) rfl) rfl
set_option maxRecDepth 20000 in
theorem wd_1222 : (Jvm.Cond.instanceMethod ({ cls := "FamineCodeModel", name := "reachedBy", desc := "(II)I" } : Jvm.MethodName)) ∈ gtbl := gt_t4 (List.mem_of_getElem? (i := 201) rfl) rfl
set_option maxRecDepth 20000 in
theorem wd_1223 : (Jvm.Cond.code ({ cls := "FamineCodeModel", name := "reachedBy", desc := "(II)I" } : Jvm.MethodName) prog_12_method_47_code (7 : Nat) (Option.some Jvm.ClassFile.FieldType.int)) ∈ gtbl := gt_t4 (List.mem_of_getElem? (i := 202) rfl) rfl
set_option maxRecDepth 20000 in
theorem wd_1224 : (Jvm.Cond.methodLink "FamineCodeModel" (284 : Nat) ({ cls := "FamineCodeModel", name := "sumOf", desc := "(IZ)I" } : Jvm.MethodName)) ∈ gtbl := gt_t4 (List.mem_of_getElem? (i := 203) rfl) rfl
set_option maxRecDepth 20000 in
theorem wd_1226 : (Jvm.Cond.instanceMethod ({ cls := "FamineCodeModel", name := "sumOf", desc := "(IZ)I" } : Jvm.MethodName)) ∈ gtbl := gt_t4 (List.mem_of_getElem? (i := 205) rfl) rfl
set_option maxRecDepth 20000 in
theorem wd_1227 : (Jvm.Cond.code ({ cls := "FamineCodeModel", name := "sumOf", desc := "(IZ)I" } : Jvm.MethodName) prog_12_method_48_code (5 : Nat) (Option.some Jvm.ClassFile.FieldType.int)) ∈ gtbl := gt_t4 (List.mem_of_getElem? (i := 206) rfl) rfl
set_option maxRecDepth 20000 in
theorem wd_1228 : (Jvm.Cond.methodLink "FamineCodeModel" (288 : Nat) ({ cls := "FamineCodeModel", name := "many", desc := "(I)I" } : Jvm.MethodName)) ∈ gtbl := gt_t4 (List.mem_of_getElem? (i := 207) rfl) rfl
set_option maxRecDepth 20000 in
theorem wd_1229 : (Jvm.Cond.static ({ cls := "FamineCodeModel", name := "many", desc := "(I)I" } : Jvm.MethodName)) ∈ gtbl := gt_t4 (List.mem_of_getElem? (i := 208) rfl) rfl
set_option maxRecDepth 20000 in
theorem wd_1230 : (Jvm.Cond.code ({ cls := "FamineCodeModel", name := "many", desc := "(I)I" } : Jvm.MethodName) prog_12_method_49_code (3 : Nat) (Option.some Jvm.ClassFile.FieldType.int)) ∈ gtbl := gt_t4 (List.mem_of_getElem? (i := 209) rfl) rfl
set_option maxRecDepth 20000 in
theorem wd_1231 : (Jvm.Cond.methodLink "FamineCodeLaw" (118 : Nat) ({ cls := "FamineCodeModel", name := "beside", desc := "(III)I" } : Jvm.MethodName)) ∈ gtbl := gt_t4 (List.mem_of_getElem? (i := 210) rfl) rfl
set_option maxRecDepth 20000 in
theorem wd_1232 : (Jvm.Cond.instanceMethod ({ cls := "FamineCodeModel", name := "beside", desc := "(III)I" } : Jvm.MethodName)) ∈ gtbl := gt_t4 (List.mem_of_getElem? (i := 211) rfl) rfl
set_option maxRecDepth 20000 in
theorem wd_1233 : (Jvm.Cond.selects "FamineCodeModel" ({ cls := "FamineCodeModel", name := "beside", desc := "(III)I" } : Jvm.MethodName) ({ cls := "FamineCodeModel", name := "beside", desc := "(III)I" } : Jvm.MethodName)) ∈ gtbl := gt_t4 (List.mem_of_getElem? (i := 212) rfl) rfl
set_option maxRecDepth 20000 in
theorem wd_1234 : (Jvm.Cond.code ({ cls := "FamineCodeModel", name := "beside", desc := "(III)I" } : Jvm.MethodName) prog_12_method_54_code (8 : Nat) (Option.some Jvm.ClassFile.FieldType.int)) ∈ gtbl := gt_t4 (List.mem_of_getElem? (i := 213) rfl) rfl
set_option maxRecDepth 20000 in
theorem wd_1235 : (Jvm.Cond.methodLink "FamineCodeModel" (291 : Nat) ({ cls := "FamineCodeModel", name := "keep", desc := "(I)V" } : Jvm.MethodName)) ∈ gtbl := gt_t4 (List.mem_of_getElem? (i := 214) rfl) rfl
set_option maxRecDepth 20000 in
theorem wd_1237 : (Jvm.Cond.instanceMethod ({ cls := "FamineCodeModel", name := "keep", desc := "(I)V" } : Jvm.MethodName)) ∈ gtbl := gt_t4 (List.mem_of_getElem? (i := 216) rfl) rfl
set_option maxRecDepth 20000 in
theorem wd_1238 : (Jvm.Cond.code ({ cls := "FamineCodeModel", name := "keep", desc := "(I)V" } : Jvm.MethodName) prog_12_method_51_code (3 : Nat) (Option.none : Option Jvm.ClassFile.FieldType)) ∈ gtbl := gt_t4 (List.mem_of_getElem? (i := 217) rfl) rfl
set_option maxRecDepth 20000 in
theorem wd_1239 : (Jvm.Cond.methodLink "FamineCodeModel" (294 : Nat) ({ cls := "FamineCodeModel", name := "allDead", desc := "()I" } : Jvm.MethodName)) ∈ gtbl := gt_t4 (List.mem_of_getElem? (i := 218) rfl) rfl
set_option maxRecDepth 20000 in
theorem wd_1241 : (Jvm.Cond.instanceMethod ({ cls := "FamineCodeModel", name := "allDead", desc := "()I" } : Jvm.MethodName)) ∈ gtbl := gt_t4 (List.mem_of_getElem? (i := 220) rfl) rfl
set_option maxRecDepth 20000 in
theorem wd_1242 : (Jvm.Cond.code ({ cls := "FamineCodeModel", name := "allDead", desc := "()I" } : Jvm.MethodName) prog_12_method_53_code (3 : Nat) (Option.some Jvm.ClassFile.FieldType.int)) ∈ gtbl := gt_t4 (List.mem_of_getElem? (i := 221) rfl) rfl
set_option maxRecDepth 20000 in
theorem wd_1243 : (Jvm.Cond.methodLink "FamineCodeModel" (298 : Nat) ({ cls := "FamineCodeModel", name := "lay", desc := "(I)V" } : Jvm.MethodName)) ∈ gtbl := gt_t4 (List.mem_of_getElem? (i := 222) rfl) rfl
set_option maxRecDepth 20000 in
theorem wd_1245 : (Jvm.Cond.instanceMethod ({ cls := "FamineCodeModel", name := "lay", desc := "(I)V" } : Jvm.MethodName)) ∈ gtbl := gt_t4 (List.mem_of_getElem? (i := 224) rfl) rfl
set_option maxRecDepth 20000 in
theorem wd_1246 : (Jvm.Cond.code ({ cls := "FamineCodeModel", name := "lay", desc := "(I)V" } : Jvm.MethodName) prog_12_method_52_code (3 : Nat) (Option.none : Option Jvm.ClassFile.FieldType)) ∈ gtbl := gt_t4 (List.mem_of_getElem? (i := 225) rfl) rfl
set_option maxRecDepth 20000 in
theorem wd_1247 : (Jvm.Cond.methodLink "FamineCodeLaw" (70 : Nat) ({ cls := "FamineCodeModel", name := "image", desc := "()I" } : Jvm.MethodName)) ∈ gtbl := gt_t4 (List.mem_of_getElem? (i := 226) rfl) rfl
set_option maxRecDepth 20000 in
theorem wd_1248 : (Jvm.Cond.instanceMethod ({ cls := "FamineCodeModel", name := "image", desc := "()I" } : Jvm.MethodName)) ∈ gtbl := gt_t4 (List.mem_of_getElem? (i := 227) rfl) rfl
set_option maxRecDepth 20000 in
theorem wd_1249 : (Jvm.Cond.selects "FamineCodeModel" ({ cls := "FamineCodeModel", name := "image", desc := "()I" } : Jvm.MethodName) ({ cls := "FamineCodeModel", name := "image", desc := "()I" } : Jvm.MethodName)) ∈ gtbl := gt_t4 (List.mem_of_getElem? (i := 228) rfl) rfl
set_option maxRecDepth 20000 in
theorem wd_1250 : (Jvm.Cond.code ({ cls := "FamineCodeModel", name := "image", desc := "()I" } : Jvm.MethodName) prog_12_method_55_code (2 : Nat) (Option.some Jvm.ClassFile.FieldType.int)) ∈ gtbl := gt_t4 (List.mem_of_getElem? (i := 229) rfl) rfl
set_option maxRecDepth 20000 in
theorem wd_1251 : (Jvm.Cond.methodLink "FamineCodeLaw" (74 : Nat) ({ cls := "FamineCodeModel", name := "back", desc := "()I" } : Jvm.MethodName)) ∈ gtbl := gt_t4 (List.mem_of_getElem? (i := 230) rfl) rfl
set_option maxRecDepth 20000 in
theorem wd_1252 : (Jvm.Cond.instanceMethod ({ cls := "FamineCodeModel", name := "back", desc := "()I" } : Jvm.MethodName)) ∈ gtbl := gt_t4 (List.mem_of_getElem? (i := 231) rfl) rfl
set_option maxRecDepth 20000 in
theorem wd_1253 : (Jvm.Cond.selects "FamineCodeModel" ({ cls := "FamineCodeModel", name := "back", desc := "()I" } : Jvm.MethodName) ({ cls := "FamineCodeModel", name := "back", desc := "()I" } : Jvm.MethodName)) ∈ gtbl := gt_t4 (List.mem_of_getElem? (i := 232) rfl) rfl
set_option maxRecDepth 20000 in
theorem wd_1254 : (Jvm.Cond.code ({ cls := "FamineCodeModel", name := "back", desc := "()I" } : Jvm.MethodName) prog_12_method_56_code (2 : Nat) (Option.some Jvm.ClassFile.FieldType.int)) ∈ gtbl := gt_t4 (List.mem_of_getElem? (i := 233) rfl) rfl
set_option maxRecDepth 20000 in
theorem wd_1255 : (Jvm.Cond.methodLink "FamineCodeLaw" (78 : Nat) ({ cls := "FamineCodeModel", name := "told", desc := "(II)I" } : Jvm.MethodName)) ∈ gtbl := gt_t4 (List.mem_of_getElem? (i := 234) rfl) rfl
set_option maxRecDepth 20000 in
theorem wd_1256 : (Jvm.Cond.instanceMethod ({ cls := "FamineCodeModel", name := "told", desc := "(II)I" } : Jvm.MethodName)) ∈ gtbl := gt_t4 (List.mem_of_getElem? (i := 235) rfl) rfl
set_option maxRecDepth 20000 in
theorem wd_1257 : (Jvm.Cond.selects "FamineCodeModel" ({ cls := "FamineCodeModel", name := "told", desc := "(II)I" } : Jvm.MethodName) ({ cls := "FamineCodeModel", name := "told", desc := "(II)I" } : Jvm.MethodName)) ∈ gtbl := gt_t4 (List.mem_of_getElem? (i := 236) rfl) rfl
set_option maxRecDepth 20000 in
theorem wd_1258 : (Jvm.Cond.code ({ cls := "FamineCodeModel", name := "told", desc := "(II)I" } : Jvm.MethodName) prog_12_method_57_code (3 : Nat) (Option.some Jvm.ClassFile.FieldType.int)) ∈ gtbl := gt_t4 (List.mem_of_getElem? (i := 237) rfl) rfl
set_option maxRecDepth 20000 in
theorem wd_1259 : (Jvm.Cond.methodLink "FamineCodeLaw" (102 : Nat) ({ cls := "FamineCodeModel", name := "lineTold", desc := "(II)I" } : Jvm.MethodName)) ∈ gtbl := gt_t4 (List.mem_of_getElem? (i := 238) rfl) rfl
set_option maxRecDepth 20000 in
theorem wd_1260 : (Jvm.Cond.instanceMethod ({ cls := "FamineCodeModel", name := "lineTold", desc := "(II)I" } : Jvm.MethodName)) ∈ gtbl := gt_t4 (List.mem_of_getElem? (i := 239) rfl) rfl
set_option maxRecDepth 20000 in
theorem wd_1261 : (Jvm.Cond.selects "FamineCodeModel" ({ cls := "FamineCodeModel", name := "lineTold", desc := "(II)I" } : Jvm.MethodName) ({ cls := "FamineCodeModel", name := "lineTold", desc := "(II)I" } : Jvm.MethodName)) ∈ gtbl := gt_t5 (List.mem_of_getElem? (i := 0) rfl) rfl
set_option maxRecDepth 20000 in
theorem wd_1262 : (Jvm.Cond.code ({ cls := "FamineCodeModel", name := "lineTold", desc := "(II)I" } : Jvm.MethodName) prog_12_method_58_code (3 : Nat) (Option.some Jvm.ClassFile.FieldType.int)) ∈ gtbl := gt_t5 (List.mem_of_getElem? (i := 1) rfl) rfl
set_option maxRecDepth 20000 in
theorem wd_1263 : (Jvm.Cond.methodLink "FamineCodeLaw" (122 : Nat) ({ cls := "FamineCodeModel", name := "count", desc := "(I)I" } : Jvm.MethodName)) ∈ gtbl := gt_t5 (List.mem_of_getElem? (i := 2) rfl) rfl
set_option maxRecDepth 20000 in
theorem wd_1264 : (Jvm.Cond.instanceMethod ({ cls := "FamineCodeModel", name := "count", desc := "(I)I" } : Jvm.MethodName)) ∈ gtbl := gt_t5 (List.mem_of_getElem? (i := 3) rfl) rfl
set_option maxRecDepth 20000 in
theorem wd_1265 : (Jvm.Cond.selects "FamineCodeModel" ({ cls := "FamineCodeModel", name := "count", desc := "(I)I" } : Jvm.MethodName) ({ cls := "FamineCodeModel", name := "count", desc := "(I)I" } : Jvm.MethodName)) ∈ gtbl := gt_t5 (List.mem_of_getElem? (i := 4) rfl) rfl
set_option maxRecDepth 20000 in
theorem wd_1266 : (Jvm.Cond.code ({ cls := "FamineCodeModel", name := "count", desc := "(I)I" } : Jvm.MethodName) prog_12_method_59_code (2 : Nat) (Option.some Jvm.ClassFile.FieldType.int)) ∈ gtbl := gt_t5 (List.mem_of_getElem? (i := 5) rfl) rfl
set_option maxRecDepth 20000 in
theorem wd_1267 : (Jvm.Cond.methodLink "FamineCodeLaw" (126 : Nat) ({ cls := "FamineCodeModel", name := "act", desc := "(III)I" } : Jvm.MethodName)) ∈ gtbl := gt_t5 (List.mem_of_getElem? (i := 6) rfl) rfl
set_option maxRecDepth 20000 in
theorem wd_1268 : (Jvm.Cond.instanceMethod ({ cls := "FamineCodeModel", name := "act", desc := "(III)I" } : Jvm.MethodName)) ∈ gtbl := gt_t5 (List.mem_of_getElem? (i := 7) rfl) rfl
set_option maxRecDepth 20000 in
theorem wd_1269 : (Jvm.Cond.selects "FamineCodeModel" ({ cls := "FamineCodeModel", name := "act", desc := "(III)I" } : Jvm.MethodName) ({ cls := "FamineCodeModel", name := "act", desc := "(III)I" } : Jvm.MethodName)) ∈ gtbl := gt_t5 (List.mem_of_getElem? (i := 8) rfl) rfl
set_option maxRecDepth 20000 in
theorem wd_1270 : (Jvm.Cond.code ({ cls := "FamineCodeModel", name := "act", desc := "(III)I" } : Jvm.MethodName) prog_12_method_71_code (4 : Nat) (Option.some Jvm.ClassFile.FieldType.int)) ∈ gtbl := gt_t5 (List.mem_of_getElem? (i := 9) rfl) rfl
set_option maxRecDepth 20000 in
theorem wd_1271 : (Jvm.Cond.methodLink "FamineCodeModel" (317 : Nat) ({ cls := "FamineCodeModel", name := "openOf", desc := "(II)I" } : Jvm.MethodName)) ∈ gtbl := gt_t5 (List.mem_of_getElem? (i := 10) rfl) rfl
set_option maxRecDepth 20000 in
theorem wd_1273 : (Jvm.Cond.instanceMethod ({ cls := "FamineCodeModel", name := "openOf", desc := "(II)I" } : Jvm.MethodName)) ∈ gtbl := gt_t5 (List.mem_of_getElem? (i := 12) rfl) rfl
set_option maxRecDepth 20000 in
theorem wd_1274 : (Jvm.Cond.code ({ cls := "FamineCodeModel", name := "openOf", desc := "(II)I" } : Jvm.MethodName) prog_12_method_62_code (3 : Nat) (Option.some Jvm.ClassFile.FieldType.int)) ∈ gtbl := gt_t5 (List.mem_of_getElem? (i := 13) rfl) rfl
set_option maxRecDepth 20000 in
theorem wd_1275 : (Jvm.Cond.methodLink "FamineCodeModel" (311 : Nat) ({ cls := "FamineCodeModel", name := "ran", desc := "(I)V" } : Jvm.MethodName)) ∈ gtbl := gt_t5 (List.mem_of_getElem? (i := 14) rfl) rfl
set_option maxRecDepth 20000 in
theorem wd_1277 : (Jvm.Cond.instanceMethod ({ cls := "FamineCodeModel", name := "ran", desc := "(I)V" } : Jvm.MethodName)) ∈ gtbl := gt_t5 (List.mem_of_getElem? (i := 16) rfl) rfl
set_option maxRecDepth 20000 in
theorem wd_1278 : (Jvm.Cond.code ({ cls := "FamineCodeModel", name := "ran", desc := "(I)V" } : Jvm.MethodName) prog_12_method_60_code (2 : Nat) (Option.none : Option Jvm.ClassFile.FieldType)) ∈ gtbl := gt_t5 (List.mem_of_getElem? (i := 17) rfl) rfl
set_option maxRecDepth 20000 in
theorem wd_1279 : (Jvm.Cond.methodLink "FamineCodeModel" (314 : Nat) ({ cls := "FamineCodeModel", name := "open10", desc := "(II)I" } : Jvm.MethodName)) ∈ gtbl := gt_t5 (List.mem_of_getElem? (i := 18) rfl) rfl
set_option maxRecDepth 20000 in
theorem wd_1281 : (Jvm.Cond.instanceMethod ({ cls := "FamineCodeModel", name := "open10", desc := "(II)I" } : Jvm.MethodName)) ∈ gtbl := gt_t5 (List.mem_of_getElem? (i := 20) rfl) rfl
set_option maxRecDepth 20000 in
theorem wd_1282 : (Jvm.Cond.code ({ cls := "FamineCodeModel", name := "open10", desc := "(II)I" } : Jvm.MethodName) prog_12_method_61_code (3 : Nat) (Option.some Jvm.ClassFile.FieldType.int)) ∈ gtbl := gt_t5 (List.mem_of_getElem? (i := 21) rfl) rfl
set_option maxRecDepth 20000 in
theorem wd_1283 : (Jvm.Cond.methodLink "FamineCodeModel" (332 : Nat) ({ cls := "FamineCodeModel", name := "payOf", desc := "(II)I" } : Jvm.MethodName)) ∈ gtbl := gt_t5 (List.mem_of_getElem? (i := 22) rfl) rfl
set_option maxRecDepth 20000 in
theorem wd_1285 : (Jvm.Cond.instanceMethod ({ cls := "FamineCodeModel", name := "payOf", desc := "(II)I" } : Jvm.MethodName)) ∈ gtbl := gt_t5 (List.mem_of_getElem? (i := 24) rfl) rfl
set_option maxRecDepth 20000 in
theorem wd_1286 : (Jvm.Cond.code ({ cls := "FamineCodeModel", name := "payOf", desc := "(II)I" } : Jvm.MethodName) prog_12_method_65_code (3 : Nat) (Option.some Jvm.ClassFile.FieldType.int)) ∈ gtbl := gt_t5 (List.mem_of_getElem? (i := 25) rfl) rfl
set_option maxRecDepth 20000 in
theorem wd_1287 : (Jvm.Cond.methodLink "FamineCodeModel" (323 : Nat) ({ cls := "FamineCodeModel", name := "pay20", desc := "(II)I" } : Jvm.MethodName)) ∈ gtbl := gt_t5 (List.mem_of_getElem? (i := 26) rfl) rfl
set_option maxRecDepth 20000 in
theorem wd_1289 : (Jvm.Cond.instanceMethod ({ cls := "FamineCodeModel", name := "pay20", desc := "(II)I" } : Jvm.MethodName)) ∈ gtbl := gt_t5 (List.mem_of_getElem? (i := 28) rfl) rfl
set_option maxRecDepth 20000 in
theorem wd_1290 : (Jvm.Cond.code ({ cls := "FamineCodeModel", name := "pay20", desc := "(II)I" } : Jvm.MethodName) prog_12_method_64_code (3 : Nat) (Option.some Jvm.ClassFile.FieldType.int)) ∈ gtbl := gt_t5 (List.mem_of_getElem? (i := 29) rfl) rfl
set_option maxRecDepth 20000 in
theorem wd_1291 : (Jvm.Cond.methodLink "FamineCodeModel" (320 : Nat) ({ cls := "FamineCodeModel", name := "pay11", desc := "(II)I" } : Jvm.MethodName)) ∈ gtbl := gt_t5 (List.mem_of_getElem? (i := 30) rfl) rfl
set_option maxRecDepth 20000 in
theorem wd_1293 : (Jvm.Cond.instanceMethod ({ cls := "FamineCodeModel", name := "pay11", desc := "(II)I" } : Jvm.MethodName)) ∈ gtbl := gt_t5 (List.mem_of_getElem? (i := 32) rfl) rfl
set_option maxRecDepth 20000 in
theorem wd_1294 : (Jvm.Cond.code ({ cls := "FamineCodeModel", name := "pay11", desc := "(II)I" } : Jvm.MethodName) prog_12_method_63_code (3 : Nat) (Option.some Jvm.ClassFile.FieldType.int)) ∈ gtbl := gt_t5 (List.mem_of_getElem? (i := 33) rfl) rfl
set_option maxRecDepth 20000 in
theorem wd_1295 : (Jvm.Cond.methodLink "FamineCodeModel" (335 : Nat) ({ cls := "FamineCodeModel", name := "endOf", desc := "(II)I" } : Jvm.MethodName)) ∈ gtbl := gt_t5 (List.mem_of_getElem? (i := 34) rfl) rfl
set_option maxRecDepth 20000 in
theorem wd_1297 : (Jvm.Cond.instanceMethod ({ cls := "FamineCodeModel", name := "endOf", desc := "(II)I" } : Jvm.MethodName)) ∈ gtbl := gt_t5 (List.mem_of_getElem? (i := 36) rfl) rfl
set_option maxRecDepth 20000 in
theorem wd_1298 : (Jvm.Cond.code ({ cls := "FamineCodeModel", name := "endOf", desc := "(II)I" } : Jvm.MethodName) prog_12_method_68_code (4 : Nat) (Option.some Jvm.ClassFile.FieldType.int)) ∈ gtbl := gt_t5 (List.mem_of_getElem? (i := 37) rfl) rfl
set_option maxRecDepth 20000 in
theorem wd_1299 : (Jvm.Cond.methodLink "FamineCodeModel" (326 : Nat) ({ cls := "FamineCodeModel", name := "end12", desc := "(II)I" } : Jvm.MethodName)) ∈ gtbl := gt_t5 (List.mem_of_getElem? (i := 38) rfl) rfl
set_option maxRecDepth 20000 in
theorem wd_1301 : (Jvm.Cond.instanceMethod ({ cls := "FamineCodeModel", name := "end12", desc := "(II)I" } : Jvm.MethodName)) ∈ gtbl := gt_t5 (List.mem_of_getElem? (i := 40) rfl) rfl
set_option maxRecDepth 20000 in
theorem wd_1302 : (Jvm.Cond.code ({ cls := "FamineCodeModel", name := "end12", desc := "(II)I" } : Jvm.MethodName) prog_12_method_66_code (3 : Nat) (Option.some Jvm.ClassFile.FieldType.int)) ∈ gtbl := gt_t5 (List.mem_of_getElem? (i := 41) rfl) rfl
set_option maxRecDepth 20000 in
theorem wd_1303 : (Jvm.Cond.methodLink "FamineCodeModel" (329 : Nat) ({ cls := "FamineCodeModel", name := "end50", desc := "(II)I" } : Jvm.MethodName)) ∈ gtbl := gt_t5 (List.mem_of_getElem? (i := 42) rfl) rfl
set_option maxRecDepth 20000 in
theorem wd_1305 : (Jvm.Cond.instanceMethod ({ cls := "FamineCodeModel", name := "end50", desc := "(II)I" } : Jvm.MethodName)) ∈ gtbl := gt_t5 (List.mem_of_getElem? (i := 44) rfl) rfl
set_option maxRecDepth 20000 in
theorem wd_1306 : (Jvm.Cond.code ({ cls := "FamineCodeModel", name := "end50", desc := "(II)I" } : Jvm.MethodName) prog_12_method_67_code (3 : Nat) (Option.some Jvm.ClassFile.FieldType.int)) ∈ gtbl := gt_t5 (List.mem_of_getElem? (i := 45) rfl) rfl
set_option maxRecDepth 20000 in
theorem wd_1307 : (Jvm.Cond.methodLink "FamineCodeModel" (341 : Nat) ({ cls := "FamineCodeModel", name := "tellOf", desc := "(II)I" } : Jvm.MethodName)) ∈ gtbl := gt_t5 (List.mem_of_getElem? (i := 46) rfl) rfl
set_option maxRecDepth 20000 in
theorem wd_1309 : (Jvm.Cond.instanceMethod ({ cls := "FamineCodeModel", name := "tellOf", desc := "(II)I" } : Jvm.MethodName)) ∈ gtbl := gt_t5 (List.mem_of_getElem? (i := 48) rfl) rfl
set_option maxRecDepth 20000 in
theorem wd_1310 : (Jvm.Cond.code ({ cls := "FamineCodeModel", name := "tellOf", desc := "(II)I" } : Jvm.MethodName) prog_12_method_70_code (4 : Nat) (Option.some Jvm.ClassFile.FieldType.int)) ∈ gtbl := gt_t5 (List.mem_of_getElem? (i := 49) rfl) rfl
set_option maxRecDepth 20000 in
theorem wd_1311 : (Jvm.Cond.methodLink "FamineCodeModel" (338 : Nat) ({ cls := "FamineCodeModel", name := "tell13", desc := "(II)I" } : Jvm.MethodName)) ∈ gtbl := gt_t5 (List.mem_of_getElem? (i := 50) rfl) rfl
set_option maxRecDepth 20000 in
theorem wd_1313 : (Jvm.Cond.instanceMethod ({ cls := "FamineCodeModel", name := "tell13", desc := "(II)I" } : Jvm.MethodName)) ∈ gtbl := gt_t5 (List.mem_of_getElem? (i := 52) rfl) rfl
set_option maxRecDepth 20000 in
theorem wd_1314 : (Jvm.Cond.code ({ cls := "FamineCodeModel", name := "tell13", desc := "(II)I" } : Jvm.MethodName) prog_12_method_69_code (4 : Nat) (Option.some Jvm.ClassFile.FieldType.int)) ∈ gtbl := gt_t5 (List.mem_of_getElem? (i := 53) rfl) rfl
set_option maxRecDepth 20000 in
theorem wd_1315 : (Jvm.Cond.methodLink "FamineCodeLaw" (130 : Nat) ({ cls := "FamineCodeModel", name := "trace", desc := "(I)I" } : Jvm.MethodName)) ∈ gtbl := gt_t5 (List.mem_of_getElem? (i := 54) rfl) rfl
set_option maxRecDepth 20000 in
theorem wd_1316 : (Jvm.Cond.instanceMethod ({ cls := "FamineCodeModel", name := "trace", desc := "(I)I" } : Jvm.MethodName)) ∈ gtbl := gt_t5 (List.mem_of_getElem? (i := 55) rfl) rfl
set_option maxRecDepth 20000 in
theorem wd_1317 : (Jvm.Cond.selects "FamineCodeModel" ({ cls := "FamineCodeModel", name := "trace", desc := "(I)I" } : Jvm.MethodName) ({ cls := "FamineCodeModel", name := "trace", desc := "(I)I" } : Jvm.MethodName)) ∈ gtbl := gt_t5 (List.mem_of_getElem? (i := 56) rfl) rfl
set_option maxRecDepth 20000 in
theorem wd_1318 : (Jvm.Cond.code ({ cls := "FamineCodeModel", name := "trace", desc := "(I)I" } : Jvm.MethodName) prog_12_method_72_code (2 : Nat) (Option.some Jvm.ClassFile.FieldType.int)) ∈ gtbl := gt_t5 (List.mem_of_getElem? (i := 57) rfl) rfl
set_option maxRecDepth 20000 in
theorem wd_1319 : (Jvm.Cond.methodLink "FamineCodeLaw" (134 : Nat) ({ cls := "FamineCodeModel", name := "sheet", desc := "(III)I" } : Jvm.MethodName)) ∈ gtbl := gt_t5 (List.mem_of_getElem? (i := 58) rfl) rfl
set_option maxRecDepth 20000 in
theorem wd_1320 : (Jvm.Cond.instanceMethod ({ cls := "FamineCodeModel", name := "sheet", desc := "(III)I" } : Jvm.MethodName)) ∈ gtbl := gt_t5 (List.mem_of_getElem? (i := 59) rfl) rfl
set_option maxRecDepth 20000 in
theorem wd_1321 : (Jvm.Cond.selects "FamineCodeModel" ({ cls := "FamineCodeModel", name := "sheet", desc := "(III)I" } : Jvm.MethodName) ({ cls := "FamineCodeModel", name := "sheet", desc := "(III)I" } : Jvm.MethodName)) ∈ gtbl := gt_t5 (List.mem_of_getElem? (i := 60) rfl) rfl
set_option maxRecDepth 20000 in
theorem wd_1322 : (Jvm.Cond.code ({ cls := "FamineCodeModel", name := "sheet", desc := "(III)I" } : Jvm.MethodName) prog_12_method_73_code (5 : Nat) (Option.some Jvm.ClassFile.FieldType.int)) ∈ gtbl := gt_t5 (List.mem_of_getElem? (i := 61) rfl) rfl
set_option maxRecDepth 20000 in
theorem wd_1323 : (Jvm.Cond.methodLink "FamineCodeLaw" (138 : Nat) ({ cls := "FamineCodeModel", name := "cell", desc := "(III)I" } : Jvm.MethodName)) ∈ gtbl := gt_t5 (List.mem_of_getElem? (i := 62) rfl) rfl
set_option maxRecDepth 20000 in
theorem wd_1324 : (Jvm.Cond.instanceMethod ({ cls := "FamineCodeModel", name := "cell", desc := "(III)I" } : Jvm.MethodName)) ∈ gtbl := gt_t5 (List.mem_of_getElem? (i := 63) rfl) rfl
set_option maxRecDepth 20000 in
theorem wd_1325 : (Jvm.Cond.selects "FamineCodeModel" ({ cls := "FamineCodeModel", name := "cell", desc := "(III)I" } : Jvm.MethodName) ({ cls := "FamineCodeModel", name := "cell", desc := "(III)I" } : Jvm.MethodName)) ∈ gtbl := gt_t5 (List.mem_of_getElem? (i := 64) rfl) rfl
set_option maxRecDepth 20000 in
theorem wd_1326 : (Jvm.Cond.code ({ cls := "FamineCodeModel", name := "cell", desc := "(III)I" } : Jvm.MethodName) prog_12_method_74_code (4 : Nat) (Option.some Jvm.ClassFile.FieldType.int)) ∈ gtbl := gt_t5 (List.mem_of_getElem? (i := 65) rfl) rfl
set_option maxRecDepth 20000 in
theorem wd_1327 : (Jvm.Cond.methodLink "FamineCodeLaw" (143 : Nat) ({ cls := "FamineCodeModel", name := "signs", desc := "(IIIIII)I" } : Jvm.MethodName)) ∈ gtbl := gt_t5 (List.mem_of_getElem? (i := 66) rfl) rfl
set_option maxRecDepth 20000 in
theorem wd_1328 : (Jvm.Cond.instanceMethod ({ cls := "FamineCodeModel", name := "signs", desc := "(IIIIII)I" } : Jvm.MethodName)) ∈ gtbl := gt_t5 (List.mem_of_getElem? (i := 67) rfl) rfl
set_option maxRecDepth 20000 in
theorem wd_1329 : (Jvm.Cond.selects "FamineCodeModel" ({ cls := "FamineCodeModel", name := "signs", desc := "(IIIIII)I" } : Jvm.MethodName) ({ cls := "FamineCodeModel", name := "signs", desc := "(IIIIII)I" } : Jvm.MethodName)) ∈ gtbl := gt_t5 (List.mem_of_getElem? (i := 68) rfl) rfl
set_option maxRecDepth 20000 in
theorem wd_1330 : (Jvm.Cond.code ({ cls := "FamineCodeModel", name := "signs", desc := "(IIIIII)I" } : Jvm.MethodName) prog_12_method_75_code (8 : Nat) (Option.some Jvm.ClassFile.FieldType.int)) ∈ gtbl := gt_t5 (List.mem_of_getElem? (i := 69) rfl) rfl
set_option maxRecDepth 20000 in
theorem wd_1331 : (Jvm.Cond.methodLink "FamineCodeLaw" (147 : Nat) ({ cls := "FamineCodeModel", name := "forge", desc := "(III)I" } : Jvm.MethodName)) ∈ gtbl := gt_t5 (List.mem_of_getElem? (i := 70) rfl) rfl
set_option maxRecDepth 20000 in
theorem wd_1332 : (Jvm.Cond.instanceMethod ({ cls := "FamineCodeModel", name := "forge", desc := "(III)I" } : Jvm.MethodName)) ∈ gtbl := gt_t5 (List.mem_of_getElem? (i := 71) rfl) rfl
set_option maxRecDepth 20000 in
theorem wd_1333 : (Jvm.Cond.selects "FamineCodeModel" ({ cls := "FamineCodeModel", name := "forge", desc := "(III)I" } : Jvm.MethodName) ({ cls := "FamineCodeModel", name := "forge", desc := "(III)I" } : Jvm.MethodName)) ∈ gtbl := gt_t5 (List.mem_of_getElem? (i := 72) rfl) rfl
set_option maxRecDepth 20000 in
theorem wd_1334 : (Jvm.Cond.code ({ cls := "FamineCodeModel", name := "forge", desc := "(III)I" } : Jvm.MethodName) prog_12_method_80_code (5 : Nat) (Option.some Jvm.ClassFile.FieldType.int)) ∈ gtbl := gt_t5 (List.mem_of_getElem? (i := 73) rfl) rfl
set_option maxRecDepth 20000 in
theorem wd_1335 : (Jvm.Cond.methodLink "FamineCodeModel" (344 : Nat) ({ cls := "FamineCodeModel", name := "modulo", desc := "(II)I" } : Jvm.MethodName)) ∈ gtbl := gt_t5 (List.mem_of_getElem? (i := 74) rfl) rfl
set_option maxRecDepth 20000 in
theorem wd_1336 : (Jvm.Cond.static ({ cls := "FamineCodeModel", name := "modulo", desc := "(II)I" } : Jvm.MethodName)) ∈ gtbl := gt_t5 (List.mem_of_getElem? (i := 75) rfl) rfl
set_option maxRecDepth 20000 in
theorem wd_1337 : (Jvm.Cond.code ({ cls := "FamineCodeModel", name := "modulo", desc := "(II)I" } : Jvm.MethodName) prog_12_method_76_code (2 : Nat) (Option.some Jvm.ClassFile.FieldType.int)) ∈ gtbl := gt_t5 (List.mem_of_getElem? (i := 76) rfl) rfl
set_option maxRecDepth 20000 in
theorem wd_1338 : (Jvm.Cond.methodLink "FamineCodeModel" (347 : Nat) ({ cls := "FamineCodeModel", name := "isUnder", desc := "(II)Z" } : Jvm.MethodName)) ∈ gtbl := gt_t5 (List.mem_of_getElem? (i := 77) rfl) rfl
set_option maxRecDepth 20000 in
theorem wd_1340 : (Jvm.Cond.instanceMethod ({ cls := "FamineCodeModel", name := "isUnder", desc := "(II)Z" } : Jvm.MethodName)) ∈ gtbl := gt_t5 (List.mem_of_getElem? (i := 79) rfl) rfl
set_option maxRecDepth 20000 in
theorem wd_1341 : (Jvm.Cond.code ({ cls := "FamineCodeModel", name := "isUnder", desc := "(II)Z" } : Jvm.MethodName) prog_12_method_77_code (4 : Nat) (Option.some Jvm.ClassFile.FieldType.boolean)) ∈ gtbl := gt_t5 (List.mem_of_getElem? (i := 80) rfl) rfl
set_option maxRecDepth 20000 in
theorem wd_1342 : (Jvm.Cond.methodLink "FamineCodeModel" (350 : Nat) ({ cls := "FamineCodeModel", name := "shorts", desc := "(II)I" } : Jvm.MethodName)) ∈ gtbl := gt_t5 (List.mem_of_getElem? (i := 81) rfl) rfl
set_option maxRecDepth 20000 in
theorem wd_1344 : (Jvm.Cond.instanceMethod ({ cls := "FamineCodeModel", name := "shorts", desc := "(II)I" } : Jvm.MethodName)) ∈ gtbl := gt_t5 (List.mem_of_getElem? (i := 83) rfl) rfl
set_option maxRecDepth 20000 in
theorem wd_1345 : (Jvm.Cond.code ({ cls := "FamineCodeModel", name := "shorts", desc := "(II)I" } : Jvm.MethodName) prog_12_method_79_code (3 : Nat) (Option.some Jvm.ClassFile.FieldType.int)) ∈ gtbl := gt_t5 (List.mem_of_getElem? (i := 84) rfl) rfl
set_option maxRecDepth 20000 in
theorem wd_1346 : (Jvm.Cond.methodLink "FamineCodeModel" (353 : Nat) ({ cls := "FamineCodeModel", name := "copied", desc := "(II)I" } : Jvm.MethodName)) ∈ gtbl := gt_t5 (List.mem_of_getElem? (i := 85) rfl) rfl
set_option maxRecDepth 20000 in
theorem wd_1348 : (Jvm.Cond.instanceMethod ({ cls := "FamineCodeModel", name := "copied", desc := "(II)I" } : Jvm.MethodName)) ∈ gtbl := gt_t5 (List.mem_of_getElem? (i := 87) rfl) rfl
set_option maxRecDepth 20000 in
theorem wd_1349 : (Jvm.Cond.code ({ cls := "FamineCodeModel", name := "copied", desc := "(II)I" } : Jvm.MethodName) prog_12_method_78_code (5 : Nat) (Option.some Jvm.ClassFile.FieldType.int)) ∈ gtbl := gt_t5 (List.mem_of_getElem? (i := 88) rfl) rfl
set_option maxRecDepth 20000 in
theorem wd_1350 : (Jvm.Cond.methodLink "FamineCodeLaw" (151 : Nat) ({ cls := "FamineCodeModel", name := "status", desc := "()I" } : Jvm.MethodName)) ∈ gtbl := gt_t5 (List.mem_of_getElem? (i := 89) rfl) rfl
set_option maxRecDepth 20000 in
theorem wd_1351 : (Jvm.Cond.instanceMethod ({ cls := "FamineCodeModel", name := "status", desc := "()I" } : Jvm.MethodName)) ∈ gtbl := gt_t5 (List.mem_of_getElem? (i := 90) rfl) rfl
set_option maxRecDepth 20000 in
theorem wd_1352 : (Jvm.Cond.selects "FamineCodeModel" ({ cls := "FamineCodeModel", name := "status", desc := "()I" } : Jvm.MethodName) ({ cls := "FamineCodeModel", name := "status", desc := "()I" } : Jvm.MethodName)) ∈ gtbl := gt_t5 (List.mem_of_getElem? (i := 91) rfl) rfl
set_option maxRecDepth 20000 in
theorem wd_1353 : (Jvm.Cond.code ({ cls := "FamineCodeModel", name := "status", desc := "()I" } : Jvm.MethodName) prog_12_method_81_code (1 : Nat) (Option.some Jvm.ClassFile.FieldType.int)) ∈ gtbl := gt_t5 (List.mem_of_getElem? (i := 92) rfl) rfl
theorem wd_741n : (Jvm.Cond.methodLinkNest "FamineCode$Acts" (45 : Nat) ({ cls := "FamineCode", name := "isKind", desc := "(I)Z" } : Jvm.MethodName) "FamineCode") ∈ ntbl := List.mem_filter.mpr ⟨List.mem_of_getElem? (i := 680) (by decide +kernel), by decide +kernel⟩
theorem wd_744n : (Jvm.Cond.fieldLinkNest "FamineCode$Acts" (52 : Nat) "FamineCode" "KIND_ABOVE" "[I" "FamineCode") ∈ ntbl := List.mem_filter.mpr ⟨List.mem_of_getElem? (i := 683) (by decide +kernel), by decide +kernel⟩
theorem wd_806n : (Jvm.Cond.methodLinkNest "FamineCode$Sheets" (39 : Nat) ({ cls := "FamineCode", name := "within", desc := "(III)Z" } : Jvm.MethodName) "FamineCode") ∈ ntbl := List.mem_filter.mpr ⟨List.mem_of_getElem? (i := 745) (by decide +kernel), by decide +kernel⟩
