theorem pn_FC : plainName "FamineCode" = true := by decide +kernel
theorem ne_FC : "FamineCode" ≠ "java/lang/invoke/MethodHandle" ∧ "FamineCode" ≠ "java/lang/invoke/VarHandle" := by decide +kernel
theorem FC_init_ok : okM FC_init := ⟨plainFor_of_name (x := FC_init.1) pn_FC, wd_81, wd_62, ne_FC, by decide⟩
theorem pn_St : plainName "FamineCode$State" = true := by decide +kernel
theorem ne_St : "FamineCode$State" ≠ "java/lang/invoke/MethodHandle" ∧ "FamineCode$State" ≠ "java/lang/invoke/VarHandle" := by decide +kernel
theorem St_init_ok : okM St_init := ⟨plainFor_of_name (x := St_init.1) pn_St, wd_89, wd_63, ne_St, by decide⟩
theorem pn_La : plainName "FamineCode$Land" = true := by decide +kernel
theorem ne_La : "FamineCode$Land" ≠ "java/lang/invoke/MethodHandle" ∧ "FamineCode$Land" ≠ "java/lang/invoke/VarHandle" := by decide +kernel
theorem La_init_ok : okM La_init := ⟨plainFor_of_name (x := La_init.1) pn_La, wd_95, wd_64, ne_La, by decide⟩
theorem pn_Si : plainName "FamineCode$Signs" = true := by decide +kernel
theorem ne_Si : "FamineCode$Signs" ≠ "java/lang/invoke/MethodHandle" ∧ "FamineCode$Signs" ≠ "java/lang/invoke/VarHandle" := by decide +kernel
theorem Si_init_ok : okM Si_init := ⟨plainFor_of_name (x := Si_init.1) pn_Si, wd_128, wd_65, ne_Si, by decide⟩
theorem pn_Co : plainName "FamineCode$Code" = true := by decide +kernel
theorem ne_Co : "FamineCode$Code" ≠ "java/lang/invoke/MethodHandle" ∧ "FamineCode$Code" ≠ "java/lang/invoke/VarHandle" := by decide +kernel
theorem Co_init_ok : okM Co_init := ⟨plainFor_of_name (x := Co_init.1) pn_Co, wd_151, wd_66, ne_Co, by decide⟩
theorem pn_Wa : plainName "FamineCode$Ways" = true := by decide +kernel
theorem ne_Wa : "FamineCode$Ways" ≠ "java/lang/invoke/MethodHandle" ∧ "FamineCode$Ways" ≠ "java/lang/invoke/VarHandle" := by decide +kernel
theorem Wa_init_ok : okM Wa_init := ⟨plainFor_of_name (x := Wa_init.1) pn_Wa, wd_165, wd_67, ne_Wa, by decide⟩
theorem pn_Wo : plainName "FamineCode$Works" = true := by decide +kernel
theorem ne_Wo : "FamineCode$Works" ≠ "java/lang/invoke/MethodHandle" ∧ "FamineCode$Works" ≠ "java/lang/invoke/VarHandle" := by decide +kernel
theorem Wo_init_ok : okM Wo_init := ⟨plainFor_of_name (x := Wo_init.1) pn_Wo, wd_193, wd_68, ne_Wo, by decide⟩
theorem pn_Ca : plainName "FamineCode$Carts" = true := by decide +kernel
theorem ne_Ca : "FamineCode$Carts" ≠ "java/lang/invoke/MethodHandle" ∧ "FamineCode$Carts" ≠ "java/lang/invoke/VarHandle" := by decide +kernel
theorem Ca_init_ok : okM Ca_init := ⟨plainFor_of_name (x := Ca_init.1) pn_Ca, wd_244, wd_69, ne_Ca, by decide⟩
theorem pn_Ac : plainName "FamineCode$Acts" = true := by decide +kernel
theorem ne_Ac : "FamineCode$Acts" ≠ "java/lang/invoke/MethodHandle" ∧ "FamineCode$Acts" ≠ "java/lang/invoke/VarHandle" := by decide +kernel
theorem Ac_init_ok : okM Ac_init := ⟨plainFor_of_name (x := Ac_init.1) pn_Ac, wd_274, wd_70, ne_Ac, by decide⟩
theorem pn_Sh : plainName "FamineCode$Sheets" = true := by decide +kernel
theorem ne_Sh : "FamineCode$Sheets" ≠ "java/lang/invoke/MethodHandle" ∧ "FamineCode$Sheets" ≠ "java/lang/invoke/VarHandle" := by decide +kernel
theorem Sh_init_ok : okM Sh_init := ⟨plainFor_of_name (x := Sh_init.1) pn_Sh, wd_301, wd_71, ne_Sh, by decide⟩
theorem pn_JA : plainName "java/util/Arrays" = true := by decide +kernel
theorem ne_JA : "java/util/Arrays" ≠ "java/lang/invoke/MethodHandle" ∧ "java/util/Arrays" ≠ "java/lang/invoke/VarHandle" := by decide +kernel
theorem JA_fillI_ok : okM JA_fillI := ⟨plainFor_of_name (x := JA_fillI.1) pn_JA, wd_305, wd_72, ne_JA, by decide⟩
theorem FC_district_ok : okM FC_district := ⟨plainFor_of_name (x := FC_district.1) pn_FC, wd_347, wd_62, ne_FC, by decide⟩
theorem FC_within_ok : okM FC_within := ⟨plainFor_of_name (x := FC_within.1) pn_FC, wd_351, wd_62, ne_FC, by decide⟩
theorem FC_refuse_ok : okM FC_refuse := ⟨plainFor_of_name (x := FC_refuse.1) pn_FC, wd_355, wd_62, ne_FC, by decide⟩
theorem La_add_ok : okM La_add := ⟨plainFor_of_name (x := La_add.1) pn_La, wd_359, wd_64, ne_La, by decide⟩
theorem La_put_ok : okM La_put := ⟨plainFor_of_name (x := La_put.1) pn_La, wd_363, wd_64, ne_La, by decide⟩
theorem La_get_ok : okM La_get := ⟨plainFor_of_name (x := La_get.1) pn_La, wd_367, wd_64, ne_La, by decide⟩
theorem FC_done_ok : okM FC_done := ⟨plainFor_of_name (x := FC_done.1) pn_FC, wd_371, wd_62, ne_FC, by decide⟩
theorem FC_people_ok : okM FC_people := ⟨plainFor_of_name (x := FC_people.1) pn_FC, wd_375, wd_62, ne_FC, by decide⟩
theorem FC_isDistrict_ok : okM FC_isDistrict := ⟨plainFor_of_name (x := FC_isDistrict.1) pn_FC, wd_379, wd_62, ne_FC, by decide⟩
theorem FC_isClass_ok : okM FC_isClass := ⟨plainFor_of_name (x := FC_isClass.1) pn_FC, wd_382, wd_62, ne_FC, by decide⟩
theorem FC_coins_ok : okM FC_coins := ⟨plainFor_of_name (x := FC_coins.1) pn_FC, wd_387, wd_62, ne_FC, by decide⟩
theorem FC_price_ok : okM FC_price := ⟨plainFor_of_name (x := FC_price.1) pn_FC, wd_391, wd_62, ne_FC, by decide⟩
theorem FC_wage_ok : okM FC_wage := ⟨plainFor_of_name (x := FC_wage.1) pn_FC, wd_395, wd_62, ne_FC, by decide⟩
theorem FC_sign_ok : okM FC_sign := ⟨plainFor_of_name (x := FC_sign.1) pn_FC, wd_399, wd_62, ne_FC, by decide⟩
theorem FC_isSort_ok : okM FC_isSort := ⟨plainFor_of_name (x := FC_isSort.1) pn_FC, wd_402, wd_62, ne_FC, by decide⟩
theorem Si_place_ok : okM Si_place := ⟨plainFor_of_name (x := Si_place.1) pn_Si, wd_405, wd_65, ne_Si, by decide⟩
theorem Si_add_ok : okM Si_add := ⟨plainFor_of_name (x := Si_add.1) pn_Si, wd_409, wd_65, ne_Si, by decide⟩
theorem FC_line_ok : okM FC_line := ⟨plainFor_of_name (x := FC_line.1) pn_FC, wd_413, wd_62, ne_FC, by decide⟩
theorem FC_isLine_ok : okM FC_isLine := ⟨plainFor_of_name (x := FC_isLine.1) pn_FC, wd_417, wd_62, ne_FC, by decide⟩
theorem FC_isKind_ok : okM FC_isKind := ⟨plainFor_of_name (x := FC_isKind.1) pn_FC, wd_420, wd_62, ne_FC, by decide⟩
theorem FC_isTest_ok : okM FC_isTest := ⟨plainFor_of_name (x := FC_isTest.1) pn_FC, wd_423, wd_62, ne_FC, by decide⟩
theorem Co_spanIn_ok : okM Co_spanIn := ⟨plainFor_of_name (x := Co_spanIn.1) pn_Co, wd_426, wd_66, ne_Co, by decide⟩
theorem Co_add_ok : okM Co_add := ⟨plainFor_of_name (x := Co_add.1) pn_Co, wd_430, wd_66, ne_Co, by decide⟩
theorem Co_put_ok : okM Co_put := ⟨plainFor_of_name (x := Co_put.1) pn_Co, wd_434, wd_66, ne_Co, by decide⟩
theorem FC_end_ok : okM FC_end := ⟨plainFor_of_name (x := FC_end.1) pn_FC, wd_440, wd_62, ne_FC, by decide⟩
theorem Co_get_ok : okM Co_get := ⟨plainFor_of_name (x := Co_get.1) pn_Co, wd_444, wd_66, ne_Co, by decide⟩
theorem FC_week_ok : okM FC_week := ⟨plainFor_of_name (x := FC_week.1) pn_FC, wd_448, wd_62, ne_FC, by decide⟩
theorem St_passWeek_ok : okM St_passWeek := ⟨plainFor_of_name (x := St_passWeek.1) pn_St, wd_452, wd_63, ne_St, by decide⟩
theorem Co_inForce_ok : okM Co_inForce := ⟨plainFor_of_name (x := Co_inForce.1) pn_Co, wd_456, wd_66, ne_Co, by decide⟩
theorem Co_holding_ok : okM Co_holding := ⟨plainFor_of_name (x := Co_holding.1) pn_Co, wd_461, wd_66, ne_Co, by decide⟩
theorem Co_passes_ok : okM Co_passes := ⟨plainFor_of_name (x := Co_passes.1) pn_Co, wd_465, wd_66, ne_Co, by decide⟩
theorem Si_asKnown_ok : okM Si_asKnown := ⟨plainFor_of_name (x := Si_asKnown.1) pn_Si, wd_469, wd_65, ne_Si, by decide⟩
theorem Co_kindsOf_ok : okM Co_kindsOf := ⟨plainFor_of_name (x := Co_kindsOf.1) pn_Co, wd_474, wd_66, ne_Co, by decide⟩
theorem La_pass_ok : okM La_pass := ⟨plainFor_of_name (x := La_pass.1) pn_La, wd_478, wd_64, ne_La, by decide⟩
theorem La_isAmong_ok : okM La_isAmong := ⟨plainFor_of_name (x := La_isAmong.1) pn_La, wd_481, wd_64, ne_La, by decide⟩
theorem La_eatForNothing_ok : okM La_eatForNothing := ⟨plainFor_of_name (x := La_eatForNothing.1) pn_La, wd_485, wd_64, ne_La, by decide⟩
theorem ne_JM : "java/lang/Math" ≠ "java/lang/invoke/MethodHandle" ∧ "java/lang/Math" ≠ "java/lang/invoke/VarHandle" := by decide +kernel
theorem JM_min_ok : okM JM_min := ⟨by decide +kernel, wd_488, wd_74, ne_JM, by decide⟩
theorem La_more_ok : okM La_more := ⟨plainFor_of_name (x := La_more.1) pn_La, wd_492, wd_64, ne_La, by decide⟩
theorem La_pay_ok : okM La_pay := ⟨plainFor_of_name (x := La_pay.1) pn_La, wd_496, wd_64, ne_La, by decide⟩
theorem La_receive_ok : okM La_receive := ⟨plainFor_of_name (x := La_receive.1) pn_La, wd_500, wd_64, ne_La, by decide⟩
theorem La_lend_ok : okM La_lend := ⟨plainFor_of_name (x := La_lend.1) pn_La, wd_505, wd_64, ne_La, by decide⟩
theorem La_buy_ok : okM La_buy := ⟨plainFor_of_name (x := La_buy.1) pn_La, wd_509, wd_64, ne_La, by decide⟩
theorem La_suffer_ok : okM La_suffer := ⟨plainFor_of_name (x := La_suffer.1) pn_La, wd_513, wd_64, ne_La, by decide⟩
theorem FC_way_ok : okM FC_way := ⟨plainFor_of_name (x := FC_way.1) pn_FC, wd_517, wd_62, ne_FC, by decide⟩
theorem Wa_add_ok : okM Wa_add := ⟨plainFor_of_name (x := Wa_add.1) pn_Wa, wd_521, wd_67, ne_Wa, by decide⟩
theorem FC_work_ok : okM FC_work := ⟨plainFor_of_name (x := FC_work.1) pn_FC, wd_525, wd_62, ne_FC, by decide⟩
theorem Wo_add_ok : okM Wo_add := ⟨plainFor_of_name (x := Wo_add.1) pn_Wo, wd_529, wd_68, ne_Wo, by decide⟩
theorem FC_bring_ok : okM FC_bring := ⟨plainFor_of_name (x := FC_bring.1) pn_FC, wd_533, wd_62, ne_FC, by decide⟩
theorem FC_canAskLoad_ok : okM FC_canAskLoad := ⟨plainFor_of_name (x := FC_canAskLoad.1) pn_FC, wd_537, wd_62, ne_FC, by decide⟩
theorem Ca_plan_ok : okM Ca_plan := ⟨plainFor_of_name (x := Ca_plan.1) pn_Ca, wd_542, wd_69, ne_Ca, by decide⟩
theorem Ca_layWays_ok : okM Ca_layWays := ⟨plainFor_of_name (x := Ca_layWays.1) pn_Ca, wd_547, wd_69, ne_Ca, by decide⟩
theorem Ca_layEdge_ok : okM Ca_layEdge := ⟨plainFor_of_name (x := Ca_layEdge.1) pn_Ca, wd_554, wd_69, ne_Ca, by decide⟩
theorem Ca_layGiven_ok : okM Ca_layGiven := ⟨plainFor_of_name (x := Ca_layGiven.1) pn_Ca, wd_558, wd_69, ne_Ca, by decide⟩
theorem JM_max_ok : okM JM_max := ⟨by decide +kernel, wd_562, wd_74, ne_JM, by decide⟩
theorem Ca_findPath_ok : okM Ca_findPath := ⟨plainFor_of_name (x := Ca_findPath.1) pn_Ca, wd_566, wd_69, ne_Ca, by decide⟩
theorem JA_fillJ_ok : okM JA_fillJ := ⟨plainFor_of_name (x := JA_fillJ.1) pn_JA, wd_570, wd_72, ne_JA, by decide⟩
theorem Ca_comeNearer_ok : okM Ca_comeNearer := ⟨plainFor_of_name (x := Ca_comeNearer.1) pn_Ca, wd_574, wd_69, ne_Ca, by decide⟩
theorem Ca_sendAlong_ok : okM Ca_sendAlong := ⟨plainFor_of_name (x := Ca_sendAlong.1) pn_Ca, wd_578, wd_69, ne_Ca, by decide⟩
theorem Ca_drive_ok : okM Ca_drive := ⟨plainFor_of_name (x := Ca_drive.1) pn_Ca, wd_586, wd_69, ne_Ca, by decide⟩
theorem Ca_priceOf_ok : okM Ca_priceOf := ⟨plainFor_of_name (x := Ca_priceOf.1) pn_Ca, wd_591, wd_69, ne_Ca, by decide⟩
theorem FC_image_ok : okM FC_image := ⟨plainFor_of_name (x := FC_image.1) pn_FC, wd_595, wd_62, ne_FC, by decide⟩
theorem St_copyFrom_ok : okM St_copyFrom := ⟨plainFor_of_name (x := St_copyFrom.1) pn_St, wd_599, wd_63, ne_St, by decide⟩
theorem La_copyFrom_ok : okM La_copyFrom := ⟨plainFor_of_name (x := La_copyFrom.1) pn_La, wd_603, wd_64, ne_La, by decide⟩
theorem Si_copyFrom_ok : okM Si_copyFrom := ⟨plainFor_of_name (x := Si_copyFrom.1) pn_Si, wd_608, wd_65, ne_Si, by decide⟩
theorem Co_copyFrom_ok : okM Co_copyFrom := ⟨plainFor_of_name (x := Co_copyFrom.1) pn_Co, wd_613, wd_66, ne_Co, by decide⟩
theorem Wa_copyFrom_ok : okM Wa_copyFrom := ⟨plainFor_of_name (x := Wa_copyFrom.1) pn_Wa, wd_618, wd_67, ne_Wa, by decide⟩
theorem Wo_copyFrom_ok : okM Wo_copyFrom := ⟨plainFor_of_name (x := Wo_copyFrom.1) pn_Wo, wd_623, wd_68, ne_Wo, by decide⟩
theorem FC_back_ok : okM FC_back := ⟨plainFor_of_name (x := FC_back.1) pn_FC, wd_629, wd_62, ne_FC, by decide⟩
theorem FC_told_ok : okM FC_told := ⟨plainFor_of_name (x := FC_told.1) pn_FC, wd_633, wd_62, ne_FC, by decide⟩
theorem FC_known_ok : okM FC_known := ⟨plainFor_of_name (x := FC_known.1) pn_FC, wd_637, wd_62, ne_FC, by decide⟩
theorem FC_isAnyWeek_ok : okM FC_isAnyWeek := ⟨plainFor_of_name (x := FC_isAnyWeek.1) pn_FC, wd_640, wd_62, ne_FC, by decide⟩
theorem FC_holds_ok : okM FC_holds := ⟨plainFor_of_name (x := FC_holds.1) pn_FC, wd_645, wd_62, ne_FC, by decide⟩
theorem FC_open_ok : okM FC_open := ⟨plainFor_of_name (x := FC_open.1) pn_FC, wd_650, wd_62, ne_FC, by decide⟩
theorem FC_why_ok : okM FC_why := ⟨plainFor_of_name (x := FC_why.1) pn_FC, wd_656, wd_62, ne_FC, by decide⟩
theorem Co_leastOf_ok : okM Co_leastOf := ⟨plainFor_of_name (x := Co_leastOf.1) pn_Co, wd_660, wd_66, ne_Co, by decide⟩
theorem FC_was_ok : okM FC_was := ⟨plainFor_of_name (x := FC_was.1) pn_FC, wd_664, wd_62, ne_FC, by decide⟩
theorem FC_lineTold_ok : okM FC_lineTold := ⟨plainFor_of_name (x := FC_lineTold.1) pn_FC, wd_668, wd_62, ne_FC, by decide⟩
theorem FC_load_ok : okM FC_load := ⟨plainFor_of_name (x := FC_load.1) pn_FC, wd_672, wd_62, ne_FC, by decide⟩
theorem FC_loaded_ok : okM FC_loaded := ⟨plainFor_of_name (x := FC_loaded.1) pn_FC, wd_676, wd_62, ne_FC, by decide⟩
theorem FC_fewest_ok : okM FC_fewest := ⟨plainFor_of_name (x := FC_fewest.1) pn_FC, wd_680, wd_62, ne_FC, by decide⟩
theorem Wa_reached_ok : okM Wa_reached := ⟨plainFor_of_name (x := Wa_reached.1) pn_Wa, wd_684, wd_67, ne_Wa, by decide⟩
theorem Wo_bestSet_ok : okM Wo_bestSet := ⟨plainFor_of_name (x := Wo_bestSet.1) pn_Wo, wd_688, wd_68, ne_Wo, by decide⟩
theorem Wo_worksIn_ok : okM Wo_worksIn := ⟨plainFor_of_name (x := Wo_worksIn.1) pn_Wo, wd_692, wd_68, ne_Wo, by decide⟩
theorem Wo_sumOver_ok : okM Wo_sumOver := ⟨plainFor_of_name (x := Wo_sumOver.1) pn_Wo, wd_696, wd_68, ne_Wo, by decide⟩
theorem pn_JI : plainName "java/lang/Integer" = true := by decide +kernel
theorem ne_JI : "java/lang/Integer" ≠ "java/lang/invoke/MethodHandle" ∧ "java/lang/Integer" ≠ "java/lang/invoke/VarHandle" := by decide +kernel
theorem JI_bitCount_ok : okM JI_bitCount := ⟨plainFor_of_name (x := JI_bitCount.1) pn_JI, wd_699, wd_76, ne_JI, by decide⟩
theorem FC_beside_ok : okM FC_beside := ⟨plainFor_of_name (x := FC_beside.1) pn_FC, wd_706, wd_62, ne_FC, by decide⟩
theorem St_dream_ok : okM St_dream := ⟨plainFor_of_name (x := St_dream.1) pn_St, wd_711, wd_63, ne_St, by decide⟩
theorem La_sum_ok : okM La_sum := ⟨plainFor_of_name (x := La_sum.1) pn_La, wd_715, wd_64, ne_La, by decide⟩
theorem La_sumOfClasses_ok : okM La_sumOfClasses := ⟨plainFor_of_name (x := La_sumOfClasses.1) pn_La, wd_719, wd_64, ne_La, by decide⟩
theorem FC_count_ok : okM FC_count := ⟨plainFor_of_name (x := FC_count.1) pn_FC, wd_723, wd_62, ne_FC, by decide⟩
theorem FC_act_ok : okM FC_act := ⟨plainFor_of_name (x := FC_act.1) pn_FC, wd_727, wd_62, ne_FC, by decide⟩
theorem Ac_run_ok : okM Ac_run := ⟨plainFor_of_name (x := Ac_run.1) pn_Ac, wd_731, wd_70, ne_Ac, by decide⟩
theorem Ac_own_ok : okM Ac_own := ⟨plainFor_of_name (x := Ac_own.1) pn_Ac, wd_736, wd_70, ne_Ac, by decide⟩
theorem Ac_from_ok : okM Ac_from := ⟨plainFor_of_name (x := Ac_from.1) pn_Ac, wd_740, wd_70, ne_Ac, by decide⟩
theorem Ac_body_ok : okM Ac_body := ⟨plainFor_of_name (x := Ac_body.1) pn_Ac, wd_749, wd_70, ne_Ac, by decide⟩
theorem Ac_keepInTrace_ok : okM Ac_keepInTrace := ⟨plainFor_of_name (x := Ac_keepInTrace.1) pn_Ac, wd_753, wd_70, ne_Ac, by decide⟩
theorem FC_trace_ok : okM FC_trace := ⟨plainFor_of_name (x := FC_trace.1) pn_FC, wd_757, wd_62, ne_FC, by decide⟩
theorem FC_sheet_ok : okM FC_sheet := ⟨plainFor_of_name (x := FC_sheet.1) pn_FC, wd_761, wd_62, ne_FC, by decide⟩
theorem FC_isSheet_ok : okM FC_isSheet := ⟨plainFor_of_name (x := FC_isSheet.1) pn_FC, wd_764, wd_62, ne_FC, by decide⟩
theorem Sh_lay_ok : okM Sh_lay := ⟨plainFor_of_name (x := Sh_lay.1) pn_Sh, wd_768, wd_71, ne_Sh, by decide⟩
theorem Sh_put_ok : okM Sh_put := ⟨plainFor_of_name (x := Sh_put.1) pn_Sh, wd_772, wd_71, ne_Sh, by decide⟩
theorem FC_cell_ok : okM FC_cell := ⟨plainFor_of_name (x := FC_cell.1) pn_FC, wd_776, wd_62, ne_FC, by decide⟩
theorem Sh_isMissing_ok : okM Sh_isMissing := ⟨plainFor_of_name (x := Sh_isMissing.1) pn_Sh, wd_780, wd_71, ne_Sh, by decide⟩
theorem Sh_spans_ok : okM Sh_spans := ⟨plainFor_of_name (x := Sh_spans.1) pn_Sh, wd_784, wd_71, ne_Sh, by decide⟩
theorem FC_signs_ok : okM FC_signs := ⟨plainFor_of_name (x := FC_signs.1) pn_FC, wd_789, wd_62, ne_FC, by decide⟩
theorem FC_isSheetSort_ok : okM FC_isSheetSort := ⟨plainFor_of_name (x := FC_isSheetSort.1) pn_FC, wd_792, wd_62, ne_FC, by decide⟩
theorem Sh_faultAs_ok : okM Sh_faultAs := ⟨plainFor_of_name (x := Sh_faultAs.1) pn_Sh, wd_796, wd_71, ne_Sh, by decide⟩
theorem Sh_allWithin_ok : okM Sh_allWithin := ⟨plainFor_of_name (x := Sh_allWithin.1) pn_Sh, wd_801, wd_71, ne_Sh, by decide⟩
theorem Sh_get_ok : okM Sh_get := ⟨plainFor_of_name (x := Sh_get.1) pn_Sh, wd_805, wd_71, ne_Sh, by decide⟩
theorem FC_forge_ok : okM FC_forge := ⟨plainFor_of_name (x := FC_forge.1) pn_FC, wd_811, wd_62, ne_FC, by decide⟩
theorem JM_floorMod_ok : okM JM_floorMod := ⟨by decide +kernel, wd_814, wd_74, ne_JM, by decide⟩
theorem FC_forgeKind_ok : okM FC_forgeKind := ⟨plainFor_of_name (x := FC_forgeKind.1) pn_FC, wd_818, wd_62, ne_FC, by decide⟩
theorem FC_isUnder_ok : okM FC_isUnder := ⟨plainFor_of_name (x := FC_isUnder.1) pn_FC, wd_821, wd_62, ne_FC, by decide⟩
theorem FC_forgeShort_ok : okM FC_forgeShort := ⟨plainFor_of_name (x := FC_forgeShort.1) pn_FC, wd_826, wd_62, ne_FC, by decide⟩
theorem FC_forgeCopy_ok : okM FC_forgeCopy := ⟨plainFor_of_name (x := FC_forgeCopy.1) pn_FC, wd_830, wd_62, ne_FC, by decide⟩
theorem Sh_sum_ok : okM Sh_sum := ⟨plainFor_of_name (x := Sh_sum.1) pn_Sh, wd_834, wd_71, ne_Sh, by decide⟩
theorem FC_forgeRow_ok : okM FC_forgeRow := ⟨plainFor_of_name (x := FC_forgeRow.1) pn_FC, wd_838, wd_62, ne_FC, by decide⟩
theorem FC_status_ok : okM FC_status := ⟨plainFor_of_name (x := FC_status.1) pn_FC, wd_842, wd_62, ne_FC, by decide⟩
theorem pn_FM : plainName "FamineCodeModel" = true := by decide +kernel
theorem ne_FM : "FamineCodeModel" ≠ "java/lang/invoke/MethodHandle" ∧ "FamineCodeModel" ≠ "java/lang/invoke/VarHandle" := by decide +kernel
theorem FM_init_ok : okM FM_init := ⟨plainFor_of_name (x := FM_init.1) pn_FM, wd_847, wd_73, ne_FM, by decide⟩
theorem FM_district_ok : okM FM_district := ⟨plainFor_of_name (x := FM_district.1) pn_FM, wd_1043, wd_73, ne_FM, by decide⟩
theorem FM_in_ok : okM FM_in := ⟨plainFor_of_name (x := FM_in.1) pn_FM, wd_1047, wd_73, ne_FM, by decide⟩
theorem FM_refused_ok : okM FM_refused := ⟨plainFor_of_name (x := FM_refused.1) pn_FM, wd_1051, wd_73, ne_FM, by decide⟩
theorem FM_done_ok : okM FM_done := ⟨plainFor_of_name (x := FM_done.1) pn_FM, wd_1055, wd_73, ne_FM, by decide⟩
theorem FM_people_ok : okM FM_people := ⟨plainFor_of_name (x := FM_people.1) pn_FM, wd_1059, wd_73, ne_FM, by decide⟩
theorem FM_isClass_ok : okM FM_isClass := ⟨plainFor_of_name (x := FM_isClass.1) pn_FM, wd_1063, wd_73, ne_FM, by decide⟩
theorem FM_isDistrict_ok : okM FM_isDistrict := ⟨plainFor_of_name (x := FM_isDistrict.1) pn_FM, wd_1067, wd_73, ne_FM, by decide⟩
theorem FM_coins_ok : okM FM_coins := ⟨plainFor_of_name (x := FM_coins.1) pn_FM, wd_1071, wd_73, ne_FM, by decide⟩
theorem FM_price_ok : okM FM_price := ⟨plainFor_of_name (x := FM_price.1) pn_FM, wd_1075, wd_73, ne_FM, by decide⟩
theorem FM_wage_ok : okM FM_wage := ⟨plainFor_of_name (x := FM_wage.1) pn_FM, wd_1079, wd_73, ne_FM, by decide⟩
theorem FM_sign_ok : okM FM_sign := ⟨plainFor_of_name (x := FM_sign.1) pn_FM, wd_1083, wd_73, ne_FM, by decide⟩
theorem FM_tells_ok : okM FM_tells := ⟨plainFor_of_name (x := FM_tells.1) pn_FM, wd_1087, wd_73, ne_FM, by decide⟩
theorem FM_line_ok : okM FM_line := ⟨plainFor_of_name (x := FM_line.1) pn_FM, wd_1091, wd_73, ne_FM, by decide⟩
theorem FM_end_ok : okM FM_end := ⟨plainFor_of_name (x := FM_end.1) pn_FM, wd_1095, wd_73, ne_FM, by decide⟩
theorem FM_isLine_ok : okM FM_isLine := ⟨plainFor_of_name (x := FM_isLine.1) pn_FM, wd_1099, wd_73, ne_FM, by decide⟩
theorem FM_known_ok : okM FM_known := ⟨plainFor_of_name (x := FM_known.1) pn_FM, wd_1103, wd_73, ne_FM, by decide⟩
theorem FM_isWeek_ok : okM FM_isWeek := ⟨plainFor_of_name (x := FM_isWeek.1) pn_FM, wd_1106, wd_73, ne_FM, by decide⟩
theorem FM_signKnown_ok : okM FM_signKnown := ⟨plainFor_of_name (x := FM_signKnown.1) pn_FM, wd_1110, wd_73, ne_FM, by decide⟩
theorem FM_holds_ok : okM FM_holds := ⟨plainFor_of_name (x := FM_holds.1) pn_FM, wd_1114, wd_73, ne_FM, by decide⟩
theorem FM_holdsAt_ok : okM FM_holdsAt := ⟨plainFor_of_name (x := FM_holdsAt.1) pn_FM, wd_1118, wd_73, ne_FM, by decide⟩
theorem FM_tests_ok : okM FM_tests := ⟨plainFor_of_name (x := FM_tests.1) pn_FM, wd_1122, wd_73, ne_FM, by decide⟩
theorem FM_open_ok : okM FM_open := ⟨plainFor_of_name (x := FM_open.1) pn_FM, wd_1126, wd_73, ne_FM, by decide⟩
theorem FM_bits_ok : okM FM_bits := ⟨plainFor_of_name (x := FM_bits.1) pn_FM, wd_1130, wd_73, ne_FM, by decide⟩
theorem FM_isInForce_ok : okM FM_isInForce := ⟨plainFor_of_name (x := FM_isInForce.1) pn_FM, wd_1134, wd_73, ne_FM, by decide⟩
theorem FM_why_ok : okM FM_why := ⟨plainFor_of_name (x := FM_why.1) pn_FM, wd_1138, wd_73, ne_FM, by decide⟩
theorem FM_was_ok : okM FM_was := ⟨plainFor_of_name (x := FM_was.1) pn_FM, wd_1142, wd_73, ne_FM, by decide⟩
theorem FM_week_ok : okM FM_week := ⟨plainFor_of_name (x := FM_week.1) pn_FM, wd_1146, wd_73, ne_FM, by decide⟩
theorem FM_lives_ok : okM FM_lives := ⟨plainFor_of_name (x := FM_lives.1) pn_FM, wd_1150, wd_73, ne_FM, by decide⟩
theorem FM_least_ok : okM FM_least := ⟨plainFor_of_name (x := FM_least.1) pn_FM, wd_1154, wd_73, ne_FM, by decide⟩
theorem FM_pays_ok : okM FM_pays := ⟨plainFor_of_name (x := FM_pays.1) pn_FM, wd_1158, wd_73, ne_FM, by decide⟩
theorem FM_gets_ok : okM FM_gets := ⟨plainFor_of_name (x := FM_gets.1) pn_FM, wd_1162, wd_73, ne_FM, by decide⟩
theorem FM_lends_ok : okM FM_lends := ⟨plainFor_of_name (x := FM_lends.1) pn_FM, wd_1166, wd_73, ne_FM, by decide⟩
theorem FM_way_ok : okM FM_way := ⟨plainFor_of_name (x := FM_way.1) pn_FM, wd_1170, wd_73, ne_FM, by decide⟩
theorem FM_work_ok : okM FM_work := ⟨plainFor_of_name (x := FM_work.1) pn_FM, wd_1174, wd_73, ne_FM, by decide⟩
theorem FM_load_ok : okM FM_load := ⟨plainFor_of_name (x := FM_load.1) pn_FM, wd_1178, wd_73, ne_FM, by decide⟩
theorem FM_isLoad_ok : okM FM_isLoad := ⟨plainFor_of_name (x := FM_isLoad.1) pn_FM, wd_1182, wd_73, ne_FM, by decide⟩
theorem FM_findLoad_ok : okM FM_findLoad := ⟨plainFor_of_name (x := FM_findLoad.1) pn_FM, wd_1186, wd_73, ne_FM, by decide⟩
theorem FM_flow_ok : okM FM_flow := ⟨plainFor_of_name (x := FM_flow.1) pn_FM, wd_1190, wd_73, ne_FM, by decide⟩
theorem FM_findFar_ok : okM FM_findFar := ⟨plainFor_of_name (x := FM_findFar.1) pn_FM, wd_1194, wd_73, ne_FM, by decide⟩
theorem FM_reaches_ok : okM FM_reaches := ⟨plainFor_of_name (x := FM_reaches.1) pn_FM, wd_1199, wd_73, ne_FM, by decide⟩
theorem FM_widest_ok : okM FM_widest := ⟨plainFor_of_name (x := FM_widest.1) pn_FM, wd_1203, wd_73, ne_FM, by decide⟩
theorem FM_goes_ok : okM FM_goes := ⟨plainFor_of_name (x := FM_goes.1) pn_FM, wd_1207, wd_73, ne_FM, by decide⟩
theorem FM_loaded_ok : okM FM_loaded := ⟨plainFor_of_name (x := FM_loaded.1) pn_FM, wd_1211, wd_73, ne_FM, by decide⟩
theorem FM_bring_ok : okM FM_bring := ⟨plainFor_of_name (x := FM_bring.1) pn_FM, wd_1215, wd_73, ne_FM, by decide⟩
theorem FM_fewest_ok : okM FM_fewest := ⟨plainFor_of_name (x := FM_fewest.1) pn_FM, wd_1219, wd_73, ne_FM, by decide⟩
theorem FM_reachedBy_ok : okM FM_reachedBy := ⟨plainFor_of_name (x := FM_reachedBy.1) pn_FM, wd_1223, wd_73, ne_FM, by decide⟩
theorem FM_sumOf_ok : okM FM_sumOf := ⟨plainFor_of_name (x := FM_sumOf.1) pn_FM, wd_1227, wd_73, ne_FM, by decide⟩
theorem FM_many_ok : okM FM_many := ⟨plainFor_of_name (x := FM_many.1) pn_FM, wd_1230, wd_73, ne_FM, by decide⟩
theorem FM_beside_ok : okM FM_beside := ⟨plainFor_of_name (x := FM_beside.1) pn_FM, wd_1234, wd_73, ne_FM, by decide⟩
theorem FM_keep_ok : okM FM_keep := ⟨plainFor_of_name (x := FM_keep.1) pn_FM, wd_1238, wd_73, ne_FM, by decide⟩
theorem FM_allDead_ok : okM FM_allDead := ⟨plainFor_of_name (x := FM_allDead.1) pn_FM, wd_1242, wd_73, ne_FM, by decide⟩
theorem FM_lay_ok : okM FM_lay := ⟨plainFor_of_name (x := FM_lay.1) pn_FM, wd_1246, wd_73, ne_FM, by decide⟩
theorem FM_image_ok : okM FM_image := ⟨plainFor_of_name (x := FM_image.1) pn_FM, wd_1250, wd_73, ne_FM, by decide⟩
theorem FM_back_ok : okM FM_back := ⟨plainFor_of_name (x := FM_back.1) pn_FM, wd_1254, wd_73, ne_FM, by decide⟩
theorem FM_told_ok : okM FM_told := ⟨plainFor_of_name (x := FM_told.1) pn_FM, wd_1258, wd_73, ne_FM, by decide⟩
theorem FM_lineTold_ok : okM FM_lineTold := ⟨plainFor_of_name (x := FM_lineTold.1) pn_FM, wd_1262, wd_73, ne_FM, by decide⟩
theorem FM_count_ok : okM FM_count := ⟨plainFor_of_name (x := FM_count.1) pn_FM, wd_1266, wd_73, ne_FM, by decide⟩
theorem FM_act_ok : okM FM_act := ⟨plainFor_of_name (x := FM_act.1) pn_FM, wd_1270, wd_73, ne_FM, by decide⟩
theorem FM_openOf_ok : okM FM_openOf := ⟨plainFor_of_name (x := FM_openOf.1) pn_FM, wd_1274, wd_73, ne_FM, by decide⟩
theorem FM_ran_ok : okM FM_ran := ⟨plainFor_of_name (x := FM_ran.1) pn_FM, wd_1278, wd_73, ne_FM, by decide⟩
theorem FM_open10_ok : okM FM_open10 := ⟨plainFor_of_name (x := FM_open10.1) pn_FM, wd_1282, wd_73, ne_FM, by decide⟩
theorem FM_payOf_ok : okM FM_payOf := ⟨plainFor_of_name (x := FM_payOf.1) pn_FM, wd_1286, wd_73, ne_FM, by decide⟩
theorem FM_pay20_ok : okM FM_pay20 := ⟨plainFor_of_name (x := FM_pay20.1) pn_FM, wd_1290, wd_73, ne_FM, by decide⟩
theorem FM_pay11_ok : okM FM_pay11 := ⟨plainFor_of_name (x := FM_pay11.1) pn_FM, wd_1294, wd_73, ne_FM, by decide⟩
theorem FM_endOf_ok : okM FM_endOf := ⟨plainFor_of_name (x := FM_endOf.1) pn_FM, wd_1298, wd_73, ne_FM, by decide⟩
theorem FM_end12_ok : okM FM_end12 := ⟨plainFor_of_name (x := FM_end12.1) pn_FM, wd_1302, wd_73, ne_FM, by decide⟩
theorem FM_end50_ok : okM FM_end50 := ⟨plainFor_of_name (x := FM_end50.1) pn_FM, wd_1306, wd_73, ne_FM, by decide⟩
theorem FM_tellOf_ok : okM FM_tellOf := ⟨plainFor_of_name (x := FM_tellOf.1) pn_FM, wd_1310, wd_73, ne_FM, by decide⟩
theorem FM_tell13_ok : okM FM_tell13 := ⟨plainFor_of_name (x := FM_tell13.1) pn_FM, wd_1314, wd_73, ne_FM, by decide⟩
theorem FM_trace_ok : okM FM_trace := ⟨plainFor_of_name (x := FM_trace.1) pn_FM, wd_1318, wd_73, ne_FM, by decide⟩
theorem FM_sheet_ok : okM FM_sheet := ⟨plainFor_of_name (x := FM_sheet.1) pn_FM, wd_1322, wd_73, ne_FM, by decide⟩
theorem FM_cell_ok : okM FM_cell := ⟨plainFor_of_name (x := FM_cell.1) pn_FM, wd_1326, wd_73, ne_FM, by decide⟩
theorem FM_signs_ok : okM FM_signs := ⟨plainFor_of_name (x := FM_signs.1) pn_FM, wd_1330, wd_73, ne_FM, by decide⟩
theorem FM_forge_ok : okM FM_forge := ⟨plainFor_of_name (x := FM_forge.1) pn_FM, wd_1334, wd_73, ne_FM, by decide⟩
theorem FM_modulo_ok : okM FM_modulo := ⟨plainFor_of_name (x := FM_modulo.1) pn_FM, wd_1337, wd_73, ne_FM, by decide⟩
theorem FM_isUnder_ok : okM FM_isUnder := ⟨plainFor_of_name (x := FM_isUnder.1) pn_FM, wd_1341, wd_73, ne_FM, by decide⟩
theorem FM_shorts_ok : okM FM_shorts := ⟨plainFor_of_name (x := FM_shorts.1) pn_FM, wd_1345, wd_73, ne_FM, by decide⟩
theorem FM_copied_ok : okM FM_copied := ⟨plainFor_of_name (x := FM_copied.1) pn_FM, wd_1349, wd_73, ne_FM, by decide⟩
theorem FM_status_ok : okM FM_status := ⟨plainFor_of_name (x := FM_status.1) pn_FM, wd_1353, wd_73, ne_FM, by decide⟩
