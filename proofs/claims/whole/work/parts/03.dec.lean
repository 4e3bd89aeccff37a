def am_il : Instr → Nat → Bool := fun i n => match i with
  | .iconst _ => n == 1
  | .lconst _ => n == 1
  | .aconst_null => n == 1
  | .iload_n _ => n == 1
  | .lload_n _ => n == 1
  | .aload_n _ => n == 1
  | .istore_n _ => n == 1
  | .astore_n _ => n == 1
  | .lstore_n _ => n == 1
  | .iadd => n == 1
  | .isub => n == 1
  | .imul => n == 1
  | .iand => n == 1
  | .ior => n == 1
  | .ixor => n == 1
  | .ishl => n == 1
  | .ishr => n == 1
  | .iushr => n == 1
  | .idiv => n == 1
  | .irem => n == 1
  | .ineg => n == 1
  | .ladd => n == 1
  | .land => n == 1
  | .lor => n == 1
  | .ldiv => n == 1
  | .lrem => n == 1
  | .lcmp => n == 1
  | .lneg => n == 1
  | .lshl => n == 1
  | .i2l => n == 1
  | .l2i => n == 1
  | .i2b => n == 1
  | .i2s => n == 1
  | .i2c => n == 1
  | .dup => n == 1
  | .dup_x1 => n == 1
  | .dup2 => n == 1
  | .pop => n == 1
  | .iaload => n == 1
  | .baload => n == 1
  | .laload => n == 1
  | .aaload => n == 1
  | .arraylength => n == 1
  | .iastore => n == 1
  | .bastore => n == 1
  | .lastore => n == 1
  | .aastore => n == 1
  | .ireturn => n == 1
  | .lreturn => n == 1
  | .areturn => n == 1
  | .return_ => n == 1
  | .bipush _ => n == 2
  | .ldc _ => n == 2
  | .iload _ => n == 2
  | .lload _ => n == 2
  | .aload _ => n == 2
  | .istore _ => n == 2
  | .astore _ => n == 2
  | .lstore _ => n == 2
  | .newarray _ => n == 2
  | .sipush _ => n == 3
  | .ldc_w _ => n == 3
  | .ldc2_w _ => n == 3
  | .iinc _ _ => n == 3
  | .goto _ => n == 3
  | .ifCond _ _ => n == 3
  | .if_icmp _ _ => n == 3
  | .ifnull _ => n == 3
  | .ifnonnull _ => n == 3
  | .getfield _ => n == 3
  | .putfield _ => n == 3
  | .getstatic _ => n == 3
  | .anewarray _ => n == 3
  | .new _ => n == 3
  | .invokevirtual _ => n == 3
  | .invokestatic _ => n == 3
  | .invokespecial _ => n == 3
  | _ => true
theorem dk_k_init_0 : (k_init_c0.all fun q => decide (decode prog_1_method_1_code q.1 = .ok q.2) && am_il q.2.1 q.2.2) = true := by decide +kernel
theorem dk_k_init_1 : (k_init_c1.all fun q => decide (decode prog_1_method_1_code q.1 = .ok q.2) && am_il q.2.1 q.2.2) = true := by decide +kernel
theorem dk_la_init_0 : (la_init_c0.all fun q => decide (decode prog_4_method_1_code q.1 = .ok q.2) && am_il q.2.1 q.2.2) = true := by decide +kernel
theorem dk_la_init_1 : (la_init_c1.all fun q => decide (decode prog_4_method_1_code q.1 = .ok q.2) && am_il q.2.1 q.2.2) = true := by decide +kernel
theorem dk_dr_init_0 : (dr_init_c0.all fun q => decide (decode prog_3_method_1_code q.1 = .ok q.2) && am_il q.2.1 q.2.2) = true := by decide +kernel
theorem dk_bh_init_0 : (bh_init_c0.all fun q => decide (decode prog_2_method_1_code q.1 = .ok q.2) && am_il q.2.1 q.2.2) = true := by decide +kernel
theorem dk_ro_init_0 : (ro_init_c0.all fun q => decide (decode prog_6_method_1_code q.1 = .ok q.2) && am_il q.2.1 q.2.2) = true := by decide +kernel
theorem dk_jm_max_0 : (jm_max_c0.all fun q => decide (decode prog_14_method_65_code q.1 = .ok q.2) && am_il q.2.1 q.2.2) = true := by decide +kernel
theorem dk_tx_init_0 : (tx_init_c0.all fun q => decide (decode prog_8_method_1_code q.1 = .ok q.2) && am_il q.2.1 q.2.2) = true := by decide +kernel
theorem dk_tr_init_0 : (tr_init_c0.all fun q => decide (decode prog_9_method_1_code q.1 = .ok q.2) && am_il q.2.1 q.2.2) = true := by decide +kernel
theorem dk_of_init_0 : (of_init_c0.all fun q => decide (decode prog_5_method_1_code q.1 = .ok q.2) && am_il q.2.1 q.2.2) = true := by decide +kernel
theorem dk_tp_init_0 : (tp_init_c0.all fun q => decide (decode prog_7_method_1_code q.1 = .ok q.2) && am_il q.2.1 q.2.2) = true := by decide +kernel
theorem dk_k_drawer_0 : (k_drawer_c0.all fun q => decide (decode prog_1_method_2_code q.1 = .ok q.2) && am_il q.2.1 q.2.2) = true := by decide +kernel
theorem dk_k_isCell_0 : (k_isCell_c0.all fun q => decide (decode prog_1_method_34_code q.1 = .ok q.2) && am_il q.2.1 q.2.2) = true := by decide +kernel
theorem dk_k_isDigit_0 : (k_isDigit_c0.all fun q => decide (decode prog_1_method_36_code q.1 = .ok q.2) && am_il q.2.1 q.2.2) = true := by decide +kernel
theorem dk_la_addDrawer_0 : (la_addDrawer_c0.all fun q => decide (decode prog_4_method_4_code q.1 = .ok q.2) && am_il q.2.1 q.2.2) = true := by decide +kernel
theorem dk_dr_begins_0 : (dr_begins_c0.all fun q => decide (decode prog_3_method_2_code q.1 = .ok q.2) && am_il q.2.1 q.2.2) = true := by decide +kernel
theorem dk_k_of_0 : (k_of_c0.all fun q => decide (decode prog_1_method_3_code q.1 = .ok q.2) && am_il q.2.1 q.2.2) = true := by decide +kernel
theorem dk_k_of_1 : (k_of_c1.all fun q => decide (decode prog_1_method_3_code q.1 = .ok q.2) && am_il q.2.1 q.2.2) = true := by decide +kernel
theorem dk_la_drawerAt_0 : (la_drawerAt_c0.all fun q => decide (decode prog_4_method_3_code q.1 = .ok q.2) && am_il q.2.1 q.2.2) = true := by decide +kernel
theorem dk_la_feelOf_0 : (la_feelOf_c0.all fun q => decide (decode prog_4_method_19_code q.1 = .ok q.2) && am_il q.2.1 q.2.2) = true := by decide +kernel
theorem dk_la_feelOf_1 : (la_feelOf_c1.all fun q => decide (decode prog_4_method_19_code q.1 = .ok q.2) && am_il q.2.1 q.2.2) = true := by decide +kernel
theorem dk_la_answersOf_0 : (la_answersOf_c0.all fun q => decide (decode prog_4_method_17_code q.1 = .ok q.2) && am_il q.2.1 q.2.2) = true := by decide +kernel
theorem dk_la_markAt_0 : (la_markAt_c0.all fun q => decide (decode prog_4_method_5_code q.1 = .ok q.2) && am_il q.2.1 q.2.2) = true := by decide +kernel
theorem dk_of_turnsBy_0 : (of_turnsBy_c0.all fun q => decide (decode prog_5_method_4_code q.1 = .ok q.2) && am_il q.2.1 q.2.2) = true := by decide +kernel
theorem dk_of_turnsBy_1 : (of_turnsBy_c1.all fun q => decide (decode prog_5_method_4_code q.1 = .ok q.2) && am_il q.2.1 q.2.2) = true := by decide +kernel
theorem dk_of_holds_0 : (of_holds_c0.all fun q => decide (decode prog_5_method_5_code q.1 = .ok q.2) && am_il q.2.1 q.2.2) = true := by decide +kernel
theorem dk_la_othersWith_0 : (la_othersWith_c0.all fun q => decide (decode prog_4_method_18_code q.1 = .ok q.2) && am_il q.2.1 q.2.2) = true := by decide +kernel
theorem dk_jm_floorMod_0 : (jm_floorMod_c0.all fun q => decide (decode prog_14_method_50_code q.1 = .ok q.2) && am_il q.2.1 q.2.2) = true := by decide +kernel
theorem dk_la_wayOf_0 : (la_wayOf_c0.all fun q => decide (decode prog_4_method_20_code q.1 = .ok q.2) && am_il q.2.1 q.2.2) = true := by decide +kernel
theorem dk_la_cameOf_0 : (la_cameOf_c0.all fun q => decide (decode prog_4_method_27_code q.1 = .ok q.2) && am_il q.2.1 q.2.2) = true := by decide +kernel
theorem dk_la_endBySheet_0 : (la_endBySheet_c0.all fun q => decide (decode prog_4_method_26_code q.1 = .ok q.2) && am_il q.2.1 q.2.2) = true := by decide +kernel
theorem dk_la_stepFrom_0 : (la_stepFrom_c0.all fun q => decide (decode prog_4_method_25_code q.1 = .ok q.2) && am_il q.2.1 q.2.2) = true := by decide +kernel
theorem dk_la_hereOf_0 : (la_hereOf_c0.all fun q => decide (decode prog_4_method_28_code q.1 = .ok q.2) && am_il q.2.1 q.2.2) = true := by decide +kernel
theorem dk_la_lookOf_0 : (la_lookOf_c0.all fun q => decide (decode prog_4_method_29_code q.1 = .ok q.2) && am_il q.2.1 q.2.2) = true := by decide +kernel
theorem dk_la_mostAtOneMark_0 : (la_mostAtOneMark_c0.all fun q => decide (decode prog_4_method_30_code q.1 = .ok q.2) && am_il q.2.1 q.2.2) = true := by decide +kernel
theorem dk_k_isMark_0 : (k_isMark_c0.all fun q => decide (decode prog_1_method_35_code q.1 = .ok q.2) && am_il q.2.1 q.2.2) = true := by decide +kernel
theorem dk_k_placesOf_0 : (k_placesOf_c0.all fun q => decide (decode prog_1_method_47_code q.1 = .ok q.2) && am_il q.2.1 q.2.2) = true := by decide +kernel
theorem dk_k_tryAt_0 : (k_tryAt_c0.all fun q => decide (decode prog_1_method_42_code q.1 = .ok q.2) && am_il q.2.1 q.2.2) = true := by decide +kernel
theorem dk_la_copyFrom_0 : (la_copyFrom_c0.all fun q => decide (decode prog_4_method_2_code q.1 = .ok q.2) && am_il q.2.1 q.2.2) = true := by decide +kernel
theorem dk_dr_copyFrom_0 : (dr_copyFrom_c0.all fun q => decide (decode prog_3_method_3_code q.1 = .ok q.2) && am_il q.2.1 q.2.2) = true := by decide +kernel
theorem dk_la_putAt_0 : (la_putAt_c0.all fun q => decide (decode prog_4_method_8_code q.1 = .ok q.2) && am_il q.2.1 q.2.2) = true := by decide +kernel
theorem dk_k_seenIsSo_0 : (k_seenIsSo_c0.all fun q => decide (decode prog_1_method_50_code q.1 = .ok q.2) && am_il q.2.1 q.2.2) = true := by decide +kernel
theorem dk_bh_lastHourSeen_0 : (bh_lastHourSeen_c0.all fun q => decide (decode prog_2_method_3_code q.1 = .ok q.2) && am_il q.2.1 q.2.2) = true := by decide +kernel
theorem dk_k_seenIsSoIn_0 : (k_seenIsSoIn_c0.all fun q => decide (decode prog_1_method_51_code q.1 = .ok q.2) && am_il q.2.1 q.2.2) = true := by decide +kernel
theorem dk_la_whereIs_0 : (la_whereIs_c0.all fun q => decide (decode prog_4_method_7_code q.1 = .ok q.2) && am_il q.2.1 q.2.2) = true := by decide +kernel
theorem dk_la_hoursGo_0 : (la_hoursGo_c0.all fun q => decide (decode prog_4_method_23_code q.1 = .ok q.2) && am_il q.2.1 q.2.2) = true := by decide +kernel
theorem dk_la_anyGoes_0 : (la_anyGoes_c0.all fun q => decide (decode prog_4_method_24_code q.1 = .ok q.2) && am_il q.2.1 q.2.2) = true := by decide +kernel
theorem dk_dr_goes_0 : (dr_goes_c0.all fun q => decide (decode prog_3_method_4_code q.1 = .ok q.2) && am_il q.2.1 q.2.2) = true := by decide +kernel
theorem dk_la_hourGoes_0 : (la_hourGoes_c0.all fun q => decide (decode prog_4_method_21_code q.1 = .ok q.2) && am_il q.2.1 q.2.2) = true := by decide +kernel
theorem dk_la_hourGoes_1 : (la_hourGoes_c1.all fun q => decide (decode prog_4_method_21_code q.1 = .ok q.2) && am_il q.2.1 q.2.2) = true := by decide +kernel
theorem dk_la_know_0 : (la_know_c0.all fun q => decide (decode prog_4_method_16_code q.1 = .ok q.2) && am_il q.2.1 q.2.2) = true := by decide +kernel
theorem dk_la_stepsAndDraws_0 : (la_stepsAndDraws_c0.all fun q => decide (decode prog_4_method_22_code q.1 = .ok q.2) && am_il q.2.1 q.2.2) = true := by decide +kernel
theorem dk_dr_writes_0 : (dr_writes_c0.all fun q => decide (decode prog_3_method_5_code q.1 = .ok q.2) && am_il q.2.1 q.2.2) = true := by decide +kernel
theorem dk_dr_rowsWith_0 : (dr_rowsWith_c0.all fun q => decide (decode prog_3_method_6_code q.1 = .ok q.2) && am_il q.2.1 q.2.2) = true := by decide +kernel
theorem dk_k_sheet_0 : (k_sheet_c0.all fun q => decide (decode prog_1_method_4_code q.1 = .ok q.2) && am_il q.2.1 q.2.2) = true := by decide +kernel
theorem dk_k_put_0 : (k_put_c0.all fun q => decide (decode prog_1_method_5_code q.1 = .ok q.2) && am_il q.2.1 q.2.2) = true := by decide +kernel
theorem dk_k_anew_0 : (k_anew_c0.all fun q => decide (decode prog_1_method_6_code q.1 = .ok q.2) && am_il q.2.1 q.2.2) = true := by decide +kernel
theorem dk_k_mark_0 : (k_mark_c0.all fun q => decide (decode prog_1_method_7_code q.1 = .ok q.2) && am_il q.2.1 q.2.2) = true := by decide +kernel
theorem dk_la_setMark_0 : (la_setMark_c0.all fun q => decide (decode prog_4_method_6_code q.1 = .ok q.2) && am_il q.2.1 q.2.2) = true := by decide +kernel
theorem dk_k_row_0 : (k_row_c0.all fun q => decide (decode prog_1_method_8_code q.1 = .ok q.2) && am_il q.2.1 q.2.2) = true := by decide +kernel
theorem dk_k_feed_0 : (k_feed_c0.all fun q => decide (decode prog_1_method_9_code q.1 = .ok q.2) && am_il q.2.1 q.2.2) = true := by decide +kernel
theorem dk_tx_append_0 : (tx_append_c0.all fun q => decide (decode prog_8_method_2_code q.1 = .ok q.2) && am_il q.2.1 q.2.2) = true := by decide +kernel
theorem dk_k_office_0 : (k_office_c0.all fun q => decide (decode prog_1_method_10_code q.1 = .ok q.2) && am_il q.2.1 q.2.2) = true := by decide +kernel
theorem dk_tx_readInto_0 : (tx_readInto_c0.all fun q => decide (decode prog_8_method_3_code q.1 = .ok q.2) && am_il q.2.1 q.2.2) = true := by decide +kernel
theorem dk_of_clear_0 : (of_clear_c0.all fun q => decide (decode prog_5_method_2_code q.1 = .ok q.2) && am_il q.2.1 q.2.2) = true := by decide +kernel
theorem dk_tx_clause_0 : (tx_clause_c0.all fun q => decide (decode prog_8_method_8_code q.1 = .ok q.2) && am_il q.2.1 q.2.2) = true := by decide +kernel
theorem dk_tx_ahead_0 : (tx_ahead_c0.all fun q => decide (decode prog_8_method_4_code q.1 = .ok q.2) && am_il q.2.1 q.2.2) = true := by decide +kernel
theorem dk_tx_takesAll_0 : (tx_takesAll_c0.all fun q => decide (decode prog_8_method_6_code q.1 = .ok q.2) && am_il q.2.1 q.2.2) = true := by decide +kernel
theorem dk_js_length_0 : (js_length_c0.all fun q => decide (decode prog_15_method_54_code q.1 = .ok q.2) && am_il q.2.1 q.2.2) = true := by decide +kernel
theorem dk_js_coder_0 : (js_coder_c0.all fun q => decide (decode prog_15_method_152_code q.1 = .ok q.2) && am_il q.2.1 q.2.2) = true := by decide +kernel
theorem dk_js_charAt_0 : (js_charAt_c0.all fun q => decide (decode prog_15_method_56_code q.1 = .ok q.2) && am_il q.2.1 q.2.2) = true := by decide +kernel
theorem dk_js_isLatin1_0 : (js_isLatin1_c0.all fun q => decide (decode prog_15_method_154_code q.1 = .ok q.2) && am_il q.2.1 q.2.2) = true := by decide +kernel
theorem dk_jl_charAt_0 : (jl_charAt_c0.all fun q => decide (decode prog_16_method_2_code q.1 = .ok q.2) && am_il q.2.1 q.2.2) = true := by decide +kernel
theorem dk_js_checkIndex_0 : (js_checkIndex_c0.all fun q => decide (decode prog_15_method_155_code q.1 = .ok q.2) && am_il q.2.1 q.2.2) = true := by decide +kernel
theorem dk_jp_checkIndex_0 : (jp_checkIndex_c0.all fun q => decide (decode prog_19_method_11_code q.1 = .ok q.2) && am_il q.2.1 q.2.2) = true := by decide +kernel
theorem dk_tx_takes_0 : (tx_takes_c0.all fun q => decide (decode prog_8_method_5_code q.1 = .ok q.2) && am_il q.2.1 q.2.2) = true := by decide +kernel
theorem dk_tx_oneOrTwoDigits_0 : (tx_oneOrTwoDigits_c0.all fun q => decide (decode prog_8_method_7_code q.1 = .ok q.2) && am_il q.2.1 q.2.2) = true := by decide +kernel
theorem dk_tx_anyOf_0 : (tx_anyOf_c0.all fun q => decide (decode prog_8_method_9_code q.1 = .ok q.2) && am_il q.2.1 q.2.2) = true := by decide +kernel
theorem dk_tx_allOf_0 : (tx_allOf_c0.all fun q => decide (decode prog_8_method_10_code q.1 = .ok q.2) && am_il q.2.1 q.2.2) = true := by decide +kernel
theorem dk_tx_one_0 : (tx_one_c0.all fun q => decide (decode prog_8_method_11_code q.1 = .ok q.2) && am_il q.2.1 q.2.2) = true := by decide +kernel
theorem dk_tx_test_0 : (tx_test_c0.all fun q => decide (decode prog_8_method_14_code q.1 = .ok q.2) && am_il q.2.1 q.2.2) = true := by decide +kernel
theorem dk_tx_placeIn_0 : (tx_placeIn_c0.all fun q => decide (decode prog_8_method_15_code q.1 = .ok q.2) && am_il q.2.1 q.2.2) = true := by decide +kernel
theorem dk_of_append_0 : (of_append_c0.all fun q => decide (decode prog_5_method_3_code q.1 = .ok q.2) && am_il q.2.1 q.2.2) = true := by decide +kernel
theorem dk_tx_not_0 : (tx_not_c0.all fun q => decide (decode prog_8_method_12_code q.1 = .ok q.2) && am_il q.2.1 q.2.2) = true := by decide +kernel
theorem dk_tx_inBrackets_0 : (tx_inBrackets_c0.all fun q => decide (decode prog_8_method_13_code q.1 = .ok q.2) && am_il q.2.1 q.2.2) = true := by decide +kernel
theorem dk_k_told_0 : (k_told_c0.all fun q => decide (decode prog_1_method_11_code q.1 = .ok q.2) && am_il q.2.1 q.2.2) = true := by decide +kernel
theorem dk_k_marksOf_0 : (k_marksOf_c0.all fun q => decide (decode prog_1_method_46_code q.1 = .ok q.2) && am_il q.2.1 q.2.2) = true := by decide +kernel
theorem dk_la_doneBits_0 : (la_doneBits_c0.all fun q => decide (decode prog_4_method_13_code q.1 = .ok q.2) && am_il q.2.1 q.2.2) = true := by decide +kernel
theorem dk_k_whole_0 : (k_whole_c0.all fun q => decide (decode prog_1_method_43_code q.1 = .ok q.2) && am_il q.2.1 q.2.2) = true := by decide +kernel
theorem dk_k_pass_0 : (k_pass_c0.all fun q => decide (decode prog_1_method_12_code q.1 = .ok q.2) && am_il q.2.1 q.2.2) = true := by decide +kernel
theorem dk_la_capDrew_0 : (la_capDrew_c0.all fun q => decide (decode prog_4_method_15_code q.1 = .ok q.2) && am_il q.2.1 q.2.2) = true := by decide +kernel
theorem dk_jm_min_0 : (jm_min_c0.all fun q => decide (decode prog_14_method_69_code q.1 = .ok q.2) && am_il q.2.1 q.2.2) = true := by decide +kernel
theorem dk_k_on_0 : (k_on_c0.all fun q => decide (decode prog_1_method_13_code q.1 = .ok q.2) && am_il q.2.1 q.2.2) = true := by decide +kernel
theorem dk_k_drawerBehindTen_0 : (k_drawerBehindTen_c0.all fun q => decide (decode prog_1_method_38_code q.1 = .ok q.2) && am_il q.2.1 q.2.2) = true := by decide +kernel
theorem dk_k_best_0 : (k_best_c0.all fun q => decide (decode prog_1_method_14_code q.1 = .ok q.2) && am_il q.2.1 q.2.2) = true := by decide +kernel
theorem dk_k_crew_0 : (k_crew_c0.all fun q => decide (decode prog_1_method_45_code q.1 = .ok q.2) && am_il q.2.1 q.2.2) = true := by decide +kernel
theorem dk_ji_bitCount_0 : (ji_bitCount_c0.all fun q => decide (decode prog_13_method_49_code q.1 = .ok q.2) && am_il q.2.1 q.2.2) = true := by decide +kernel
theorem dk_la_othersAreDone_0 : (la_othersAreDone_c0.all fun q => decide (decode prog_4_method_12_code q.1 = .ok q.2) && am_il q.2.1 q.2.2) = true := by decide +kernel
theorem dk_k_landing_0 : (k_landing_c0.all fun q => decide (decode prog_1_method_44_code q.1 = .ok q.2) && am_il q.2.1 q.2.2) = true := by decide +kernel
theorem dk_k_see_0 : (k_see_c0.all fun q => decide (decode prog_1_method_15_code q.1 = .ok q.2) && am_il q.2.1 q.2.2) = true := by decide +kernel
theorem dk_ro_clear_0 : (ro_clear_c0.all fun q => decide (decode prog_6_method_2_code q.1 = .ok q.2) && am_il q.2.1 q.2.2) = true := by decide +kernel
theorem dk_ro_append_0 : (ro_append_c0.all fun q => decide (decode prog_6_method_3_code q.1 = .ok q.2) && am_il q.2.1 q.2.2) = true := by decide +kernel
theorem dk_k_can_0 : (k_can_c0.all fun q => decide (decode prog_1_method_16_code q.1 = .ok q.2) && am_il q.2.1 q.2.2) = true := by decide +kernel
theorem dk_k_possibleNumbers_0 : (k_possibleNumbers_c0.all fun q => decide (decode prog_1_method_48_code q.1 = .ok q.2) && am_il q.2.1 q.2.2) = true := by decide +kernel
theorem dk_la_setNumber_0 : (la_setNumber_c0.all fun q => decide (decode prog_4_method_9_code q.1 = .ok q.2) && am_il q.2.1 q.2.2) = true := by decide +kernel
theorem dk_k_leastOf_0 : (k_leastOf_c0.all fun q => decide (decode prog_1_method_49_code q.1 = .ok q.2) && am_il q.2.1 q.2.2) = true := by decide +kernel
theorem dk_k_odds_0 : (k_odds_c0.all fun q => decide (decode prog_1_method_17_code q.1 = .ok q.2) && am_il q.2.1 q.2.2) = true := by decide +kernel
theorem dk_k_partOfFraction_0 : (k_partOfFraction_c0.all fun q => decide (decode prog_1_method_53_code q.1 = .ok q.2) && am_il q.2.1 q.2.2) = true := by decide +kernel
theorem dk_k_greatestDivisor_0 : (k_greatestDivisor_c0.all fun q => decide (decode prog_1_method_54_code q.1 = .ok q.2) && am_il q.2.1 q.2.2) = true := by decide +kernel
theorem dk_k_mean_0 : (k_mean_c0.all fun q => decide (decode prog_1_method_18_code q.1 = .ok q.2) && am_il q.2.1 q.2.2) = true := by decide +kernel
theorem dk_la_drewOfAll_0 : (la_drewOfAll_c0.all fun q => decide (decode prog_4_method_14_code q.1 = .ok q.2) && am_il q.2.1 q.2.2) = true := by decide +kernel
theorem dk_k_plan_0 : (k_plan_c0.all fun q => decide (decode prog_1_method_19_code q.1 = .ok q.2) && am_il q.2.1 q.2.2) = true := by decide +kernel
theorem dk_k_isPlanRow_0 : (k_isPlanRow_c0.all fun q => decide (decode prog_1_method_37_code q.1 = .ok q.2) && am_il q.2.1 q.2.2) = true := by decide +kernel
theorem dk_k_ends_0 : (k_ends_c0.all fun q => decide (decode prog_1_method_20_code q.1 = .ok q.2) && am_il q.2.1 q.2.2) = true := by decide +kernel
theorem dk_k_tryPlan_0 : (k_tryPlan_c0.all fun q => decide (decode prog_1_method_52_code q.1 = .ok q.2) && am_il q.2.1 q.2.2) = true := by decide +kernel
theorem dk_la_emptySheet_0 : (la_emptySheet_c0.all fun q => decide (decode prog_4_method_10_code q.1 = .ok q.2) && am_il q.2.1 q.2.2) = true := by decide +kernel
theorem dk_la_notDone_0 : (la_notDone_c0.all fun q => decide (decode prog_4_method_11_code q.1 = .ok q.2) && am_il q.2.1 q.2.2) = true := by decide +kernel
theorem dk_k_book_0 : (k_book_c0.all fun q => decide (decode prog_1_method_21_code q.1 = .ok q.2) && am_il q.2.1 q.2.2) = true := by decide +kernel
theorem dk_k_looked_0 : (k_looked_c0.all fun q => decide (decode prog_1_method_22_code q.1 = .ok q.2) && am_il q.2.1 q.2.2) = true := by decide +kernel
theorem dk_k_judge_0 : (k_judge_c0.all fun q => decide (decode prog_1_method_23_code q.1 = .ok q.2) && am_il q.2.1 q.2.2) = true := by decide +kernel
theorem dk_k_tapeAt_0 : (k_tapeAt_c0.all fun q => decide (decode prog_1_method_39_code q.1 = .ok q.2) && am_il q.2.1 q.2.2) = true := by decide +kernel
theorem dk_tp_has_0 : (tp_has_c0.all fun q => decide (decode prog_7_method_3_code q.1 = .ok q.2) && am_il q.2.1 q.2.2) = true := by decide +kernel
theorem dk_k_image_0 : (k_image_c0.all fun q => decide (decode prog_1_method_24_code q.1 = .ok q.2) && am_il q.2.1 q.2.2) = true := by decide +kernel
theorem dk_bh_copyFrom_0 : (bh_copyFrom_c0.all fun q => decide (decode prog_2_method_2_code q.1 = .ok q.2) && am_il q.2.1 q.2.2) = true := by decide +kernel
theorem dk_ro_copyFrom_0 : (ro_copyFrom_c0.all fun q => decide (decode prog_6_method_4_code q.1 = .ok q.2) && am_il q.2.1 q.2.2) = true := by decide +kernel
theorem dk_k_undo_0 : (k_undo_c0.all fun q => decide (decode prog_1_method_25_code q.1 = .ok q.2) && am_il q.2.1 q.2.2) = true := by decide +kernel
theorem dk_k_act_0 : (k_act_c0.all fun q => decide (decode prog_1_method_26_code q.1 = .ok q.2) && am_il q.2.1 q.2.2) = true := by decide +kernel
theorem dk_tr_ofAct_0 : (tr_ofAct_c0.all fun q => decide (decode prog_9_method_4_code q.1 = .ok q.2) && am_il q.2.1 q.2.2) = true := by decide +kernel
theorem dk_tr_run_0 : (tr_run_c0.all fun q => decide (decode prog_9_method_5_code q.1 = .ok q.2) && am_il q.2.1 q.2.2) = true := by decide +kernel
theorem dk_tr_bodyOf_0 : (tr_bodyOf_c0.all fun q => decide (decode prog_9_method_2_code q.1 = .ok q.2) && am_il q.2.1 q.2.2) = true := by decide +kernel
theorem dk_k_aboveOf_0 : (k_aboveOf_c0.all fun q => decide (decode prog_1_method_40_code q.1 = .ok q.2) && am_il q.2.1 q.2.2) = true := by decide +kernel
theorem dk_tr_begins_0 : (tr_begins_c0.all fun q => decide (decode prog_9_method_3_code q.1 = .ok q.2) && am_il q.2.1 q.2.2) = true := by decide +kernel
theorem dk_tr_does_0 : (tr_does_c0.all fun q => decide (decode prog_9_method_6_code q.1 = .ok q.2) && am_il q.2.1 q.2.2) = true := by decide +kernel
theorem dk_tr_does_1 : (tr_does_c1.all fun q => decide (decode prog_9_method_6_code q.1 = .ok q.2) && am_il q.2.1 q.2.2) = true := by decide +kernel
theorem dk_tr_does_2 : (tr_does_c2.all fun q => decide (decode prog_9_method_6_code q.1 = .ok q.2) && am_il q.2.1 q.2.2) = true := by decide +kernel
theorem dk_k_trace_0 : (k_trace_c0.all fun q => decide (decode prog_1_method_27_code q.1 = .ok q.2) && am_il q.2.1 q.2.2) = true := by decide +kernel
theorem dk_k_taken_0 : (k_taken_c0.all fun q => decide (decode prog_1_method_28_code q.1 = .ok q.2) && am_il q.2.1 q.2.2) = true := by decide +kernel
theorem dk_k_isUnder_0 : (k_isUnder_c0.all fun q => decide (decode prog_1_method_41_code q.1 = .ok q.2) && am_il q.2.1 q.2.2) = true := by decide +kernel
theorem dk_k_count_0 : (k_count_c0.all fun q => decide (decode prog_1_method_29_code q.1 = .ok q.2) && am_il q.2.1 q.2.2) = true := by decide +kernel
theorem dk_k_tape_0 : (k_tape_c0.all fun q => decide (decode prog_1_method_30_code q.1 = .ok q.2) && am_il q.2.1 q.2.2) = true := by decide +kernel
theorem dk_tp_becomes_0 : (tp_becomes_c0.all fun q => decide (decode prog_7_method_2_code q.1 = .ok q.2) && am_il q.2.1 q.2.2) = true := by decide +kernel
theorem dk_k_item_0 : (k_item_c0.all fun q => decide (decode prog_1_method_31_code q.1 = .ok q.2) && am_il q.2.1 q.2.2) = true := by decide +kernel
theorem dk_tp_asItem_0 : (tp_asItem_c0.all fun q => decide (decode prog_7_method_5_code q.1 = .ok q.2) && am_il q.2.1 q.2.2) = true := by decide +kernel
theorem dk_k_read_0 : (k_read_c0.all fun q => decide (decode prog_1_method_32_code q.1 = .ok q.2) && am_il q.2.1 q.2.2) = true := by decide +kernel
theorem dk_k_shift_0 : (k_shift_c0.all fun q => decide (decode prog_1_method_33_code q.1 = .ok q.2) && am_il q.2.1 q.2.2) = true := by decide +kernel
theorem dk_tp_hasRun_0 : (tp_hasRun_c0.all fun q => decide (decode prog_7_method_4_code q.1 = .ok q.2) && am_il q.2.1 q.2.2) = true := by decide +kernel
theorem dk_m_init_0 : (m_init_c0.all fun q => decide (decode prog_11_method_1_code q.1 = .ok q.2) && am_il q.2.1 q.2.2) = true := by decide +kernel
theorem dk_m_init_1 : (m_init_c1.all fun q => decide (decode prog_11_method_1_code q.1 = .ok q.2) && am_il q.2.1 q.2.2) = true := by decide +kernel
theorem dk_m_init_2 : (m_init_c2.all fun q => decide (decode prog_11_method_1_code q.1 = .ok q.2) && am_il q.2.1 q.2.2) = true := by decide +kernel
theorem dk_m_drawer_0 : (m_drawer_c0.all fun q => decide (decode prog_11_method_5_code q.1 = .ok q.2) && am_il q.2.1 q.2.2) = true := by decide +kernel
theorem dk_m_drawer_1 : (m_drawer_c1.all fun q => decide (decode prog_11_method_5_code q.1 = .ok q.2) && am_il q.2.1 q.2.2) = true := by decide +kernel
theorem dk_m_within_0 : (m_within_c0.all fun q => decide (decode prog_11_method_2_code q.1 = .ok q.2) && am_il q.2.1 q.2.2) = true := by decide +kernel
theorem dk_m_isCell_0 : (m_isCell_c0.all fun q => decide (decode prog_11_method_4_code q.1 = .ok q.2) && am_il q.2.1 q.2.2) = true := by decide +kernel
theorem dk_m_of_0 : (m_of_c0.all fun q => decide (decode prog_11_method_6_code q.1 = .ok q.2) && am_il q.2.1 q.2.2) = true := by decide +kernel
theorem dk_m_of_1 : (m_of_c1.all fun q => decide (decode prog_11_method_6_code q.1 = .ok q.2) && am_il q.2.1 q.2.2) = true := by decide +kernel
theorem dk_m_isOne_0 : (m_isOne_c0.all fun q => decide (decode prog_11_method_3_code q.1 = .ok q.2) && am_il q.2.1 q.2.2) = true := by decide +kernel
theorem dk_m_feel_0 : (m_feel_c0.all fun q => decide (decode prog_11_method_30_code q.1 = .ok q.2) && am_il q.2.1 q.2.2) = true := by decide +kernel
theorem dk_m_feel_1 : (m_feel_c1.all fun q => decide (decode prog_11_method_30_code q.1 = .ok q.2) && am_il q.2.1 q.2.2) = true := by decide +kernel
theorem dk_m_sum_0 : (m_sum_c0.all fun q => decide (decode prog_11_method_27_code q.1 = .ok q.2) && am_il q.2.1 q.2.2) = true := by decide +kernel
theorem dk_m_sum_1 : (m_sum_c1.all fun q => decide (decode prog_11_method_27_code q.1 = .ok q.2) && am_il q.2.1 q.2.2) = true := by decide +kernel
theorem dk_m_isTrue_0 : (m_isTrue_c0.all fun q => decide (decode prog_11_method_26_code q.1 = .ok q.2) && am_il q.2.1 q.2.2) = true := by decide +kernel
theorem dk_m_isTrue_1 : (m_isTrue_c1.all fun q => decide (decode prog_11_method_26_code q.1 = .ok q.2) && am_il q.2.1 q.2.2) = true := by decide +kernel
theorem dk_m_isTrue_2 : (m_isTrue_c2.all fun q => decide (decode prog_11_method_26_code q.1 = .ok q.2) && am_il q.2.1 q.2.2) = true := by decide +kernel
theorem dk_m_letterOf_0 : (m_letterOf_c0.all fun q => decide (decode prog_11_method_25_code q.1 = .ok q.2) && am_il q.2.1 q.2.2) = true := by decide +kernel
theorem dk_m_others_0 : (m_others_c0.all fun q => decide (decode prog_11_method_29_code q.1 = .ok q.2) && am_il q.2.1 q.2.2) = true := by decide +kernel
theorem dk_m_wayOf_0 : (m_wayOf_c0.all fun q => decide (decode prog_11_method_31_code q.1 = .ok q.2) && am_il q.2.1 q.2.2) = true := by decide +kernel
theorem dk_m_came_0 : (m_came_c0.all fun q => decide (decode prog_11_method_41_code q.1 = .ok q.2) && am_il q.2.1 q.2.2) = true := by decide +kernel
theorem dk_m_came_1 : (m_came_c1.all fun q => decide (decode prog_11_method_41_code q.1 = .ok q.2) && am_il q.2.1 q.2.2) = true := by decide +kernel
theorem dk_m_step_0 : (m_step_c0.all fun q => decide (decode prog_11_method_32_code q.1 = .ok q.2) && am_il q.2.1 q.2.2) = true := by decide +kernel
theorem dk_m_look_0 : (m_look_c0.all fun q => decide (decode prog_11_method_42_code q.1 = .ok q.2) && am_il q.2.1 q.2.2) = true := by decide +kernel
theorem dk_m_look_1 : (m_look_c1.all fun q => decide (decode prog_11_method_42_code q.1 = .ok q.2) && am_il q.2.1 q.2.2) = true := by decide +kernel
theorem dk_m_places_0 : (m_places_c0.all fun q => decide (decode prog_11_method_50_code q.1 = .ok q.2) && am_il q.2.1 q.2.2) = true := by decide +kernel
theorem dk_m_isSeen_0 : (m_isSeen_c0.all fun q => decide (decode prog_11_method_48_code q.1 = .ok q.2) && am_il q.2.1 q.2.2) = true := by decide +kernel
theorem dk_m_keep_0 : (m_keep_c0.all fun q => decide (decode prog_11_method_61_code q.1 = .ok q.2) && am_il q.2.1 q.2.2) = true := by decide +kernel
theorem dk_m_keep_1 : (m_keep_c1.all fun q => decide (decode prog_11_method_61_code q.1 = .ok q.2) && am_il q.2.1 q.2.2) = true := by decide +kernel
theorem dk_m_keep_2 : (m_keep_c2.all fun q => decide (decode prog_11_method_61_code q.1 = .ok q.2) && am_il q.2.1 q.2.2) = true := by decide +kernel
theorem dk_m_keep_3 : (m_keep_c3.all fun q => decide (decode prog_11_method_61_code q.1 = .ok q.2) && am_il q.2.1 q.2.2) = true := by decide +kernel
theorem dk_m_goesHour_0 : (m_goesHour_c0.all fun q => decide (decode prog_11_method_34_code q.1 = .ok q.2) && am_il q.2.1 q.2.2) = true := by decide +kernel
theorem dk_m_goesHour_1 : (m_goesHour_c1.all fun q => decide (decode prog_11_method_34_code q.1 = .ok q.2) && am_il q.2.1 q.2.2) = true := by decide +kernel
theorem dk_m_know_0 : (m_know_c0.all fun q => decide (decode prog_11_method_28_code q.1 = .ok q.2) && am_il q.2.1 q.2.2) = true := by decide +kernel
theorem dk_m_goesBy_0 : (m_goesBy_c0.all fun q => decide (decode prog_11_method_33_code q.1 = .ok q.2) && am_il q.2.1 q.2.2) = true := by decide +kernel
theorem dk_m_goesBy_1 : (m_goesBy_c1.all fun q => decide (decode prog_11_method_33_code q.1 = .ok q.2) && am_il q.2.1 q.2.2) = true := by decide +kernel
theorem dk_m_again_0 : (m_again_c0.all fun q => decide (decode prog_11_method_62_code q.1 = .ok q.2) && am_il q.2.1 q.2.2) = true := by decide +kernel
theorem dk_m_again_1 : (m_again_c1.all fun q => decide (decode prog_11_method_62_code q.1 = .ok q.2) && am_il q.2.1 q.2.2) = true := by decide +kernel
theorem dk_m_again_2 : (m_again_c2.all fun q => decide (decode prog_11_method_62_code q.1 = .ok q.2) && am_il q.2.1 q.2.2) = true := by decide +kernel
theorem dk_m_again_3 : (m_again_c3.all fun q => decide (decode prog_11_method_62_code q.1 = .ok q.2) && am_il q.2.1 q.2.2) = true := by decide +kernel
theorem dk_m_sheet_0 : (m_sheet_c0.all fun q => decide (decode prog_11_method_7_code q.1 = .ok q.2) && am_il q.2.1 q.2.2) = true := by decide +kernel
theorem dk_m_put_0 : (m_put_c0.all fun q => decide (decode prog_11_method_8_code q.1 = .ok q.2) && am_il q.2.1 q.2.2) = true := by decide +kernel
theorem dk_m_anew_0 : (m_anew_c0.all fun q => decide (decode prog_11_method_9_code q.1 = .ok q.2) && am_il q.2.1 q.2.2) = true := by decide +kernel
theorem dk_m_mark_0 : (m_mark_c0.all fun q => decide (decode prog_11_method_10_code q.1 = .ok q.2) && am_il q.2.1 q.2.2) = true := by decide +kernel
theorem dk_m_row_0 : (m_row_c0.all fun q => decide (decode prog_11_method_11_code q.1 = .ok q.2) && am_il q.2.1 q.2.2) = true := by decide +kernel
theorem dk_m_feed_0 : (m_feed_c0.all fun q => decide (decode prog_11_method_12_code q.1 = .ok q.2) && am_il q.2.1 q.2.2) = true := by decide +kernel
theorem dk_m_office_0 : (m_office_c0.all fun q => decide (decode prog_11_method_24_code q.1 = .ok q.2) && am_il q.2.1 q.2.2) = true := by decide +kernel
theorem dk_m_office_1 : (m_office_c1.all fun q => decide (decode prog_11_method_24_code q.1 = .ok q.2) && am_il q.2.1 q.2.2) = true := by decide +kernel
theorem dk_m_isClause_0 : (m_isClause_c0.all fun q => decide (decode prog_11_method_23_code q.1 = .ok q.2) && am_il q.2.1 q.2.2) = true := by decide +kernel
theorem dk_m_isClause_1 : (m_isClause_c1.all fun q => decide (decode prog_11_method_23_code q.1 = .ok q.2) && am_il q.2.1 q.2.2) = true := by decide +kernel
theorem dk_m_isAll_0 : (m_isAll_c0.all fun q => decide (decode prog_11_method_16_code q.1 = .ok q.2) && am_il q.2.1 q.2.2) = true := by decide +kernel
theorem dk_m_is_0 : (m_is_c0.all fun q => decide (decode prog_11_method_13_code q.1 = .ok q.2) && am_il q.2.1 q.2.2) = true := by decide +kernel
theorem dk_m_isNumber_0 : (m_isNumber_c0.all fun q => decide (decode prog_11_method_15_code q.1 = .ok q.2) && am_il q.2.1 q.2.2) = true := by decide +kernel
theorem dk_m_isDigit_0 : (m_isDigit_c0.all fun q => decide (decode prog_11_method_14_code q.1 = .ok q.2) && am_il q.2.1 q.2.2) = true := by decide +kernel
theorem dk_m_isE_0 : (m_isE_c0.all fun q => decide (decode prog_11_method_22_code q.1 = .ok q.2) && am_il q.2.1 q.2.2) = true := by decide +kernel
theorem dk_m_isT_0 : (m_isT_c0.all fun q => decide (decode prog_11_method_21_code q.1 = .ok q.2) && am_il q.2.1 q.2.2) = true := by decide +kernel
theorem dk_m_isF_0 : (m_isF_c0.all fun q => decide (decode prog_11_method_20_code q.1 = .ok q.2) && am_il q.2.1 q.2.2) = true := by decide +kernel
theorem dk_m_isOpened_0 : (m_isOpened_c0.all fun q => decide (decode prog_11_method_19_code q.1 = .ok q.2) && am_il q.2.1 q.2.2) = true := by decide +kernel
theorem dk_m_codes_0 : (m_codes_c0.all fun q => decide (decode prog_11_method_17_code q.1 = .ok q.2) && am_il q.2.1 q.2.2) = true := by decide +kernel
theorem dk_m_isTest_0 : (m_isTest_c0.all fun q => decide (decode prog_11_method_18_code q.1 = .ok q.2) && am_il q.2.1 q.2.2) = true := by decide +kernel
theorem dk_m_isTest_1 : (m_isTest_c1.all fun q => decide (decode prog_11_method_18_code q.1 = .ok q.2) && am_il q.2.1 q.2.2) = true := by decide +kernel
theorem dk_js_indexOf_0 : (js_indexOf_c0.all fun q => decide (decode prog_15_method_79_code q.1 = .ok q.2) && am_il q.2.1 q.2.2) = true := by decide +kernel
theorem dk_js_indexOf2_0 : (js_indexOf2_c0.all fun q => decide (decode prog_15_method_80_code q.1 = .ok q.2) && am_il q.2.1 q.2.2) = true := by decide +kernel
theorem dk_jl_indexOf_0 : (jl_indexOf_c0.all fun q => decide (decode prog_16_method_22_code q.1 = .ok q.2) && am_il q.2.1 q.2.2) = true := by decide +kernel
theorem dk_jl_canEncode_0 : (jl_canEncode_c0.all fun q => decide (decode prog_16_method_4_code q.1 = .ok q.2) && am_il q.2.1 q.2.2) = true := by decide +kernel
theorem dk_jl_indexOfChar_0 : (jl_indexOfChar_c0.all fun q => decide (decode prog_16_method_23_code q.1 = .ok q.2) && am_il q.2.1 q.2.2) = true := by decide +kernel
theorem dk_js_checkBoundsBeginEnd_0 : (js_checkBoundsBeginEnd_c0.all fun q => decide (decode prog_15_method_158_code q.1 = .ok q.2) && am_il q.2.1 q.2.2) = true := by decide +kernel
theorem dk_jp_checkFromToIndex_0 : (jp_checkFromToIndex_c0.all fun q => decide (decode prog_19_method_12_code q.1 = .ok q.2) && am_il q.2.1 q.2.2) = true := by decide +kernel
theorem dk_m_told_0 : (m_told_c0.all fun q => decide (decode prog_11_method_38_code q.1 = .ok q.2) && am_il q.2.1 q.2.2) = true := by decide +kernel
theorem dk_m_marksOf_0 : (m_marksOf_c0.all fun q => decide (decode prog_11_method_49_code q.1 = .ok q.2) && am_il q.2.1 q.2.2) = true := by decide +kernel
theorem dk_m_allDone_0 : (m_allDone_c0.all fun q => decide (decode prog_11_method_36_code q.1 = .ok q.2) && am_il q.2.1 q.2.2) = true := by decide +kernel
theorem dk_m_whole_0 : (m_whole_c0.all fun q => decide (decode prog_11_method_37_code q.1 = .ok q.2) && am_il q.2.1 q.2.2) = true := by decide +kernel
theorem dk_m_pass_0 : (m_pass_c0.all fun q => decide (decode prog_11_method_39_code q.1 = .ok q.2) && am_il q.2.1 q.2.2) = true := by decide +kernel
theorem dk_m_on_0 : (m_on_c0.all fun q => decide (decode prog_11_method_40_code q.1 = .ok q.2) && am_il q.2.1 q.2.2) = true := by decide +kernel
theorem dk_m_goesOn_0 : (m_goesOn_c0.all fun q => decide (decode prog_11_method_35_code q.1 = .ok q.2) && am_il q.2.1 q.2.2) = true := by decide +kernel
theorem dk_m_best_0 : (m_best_c0.all fun q => decide (decode prog_11_method_46_code q.1 = .ok q.2) && am_il q.2.1 q.2.2) = true := by decide +kernel
theorem dk_m_crew_0 : (m_crew_c0.all fun q => decide (decode prog_11_method_45_code q.1 = .ok q.2) && am_il q.2.1 q.2.2) = true := by decide +kernel
theorem dk_m_crew_1 : (m_crew_c1.all fun q => decide (decode prog_11_method_45_code q.1 = .ok q.2) && am_il q.2.1 q.2.2) = true := by decide +kernel
theorem dk_m_drawnBehind_0 : (m_drawnBehind_c0.all fun q => decide (decode prog_11_method_43_code q.1 = .ok q.2) && am_il q.2.1 q.2.2) = true := by decide +kernel
theorem dk_m_landing_0 : (m_landing_c0.all fun q => decide (decode prog_11_method_44_code q.1 = .ok q.2) && am_il q.2.1 q.2.2) = true := by decide +kernel
theorem dk_m_see_0 : (m_see_c0.all fun q => decide (decode prog_11_method_47_code q.1 = .ok q.2) && am_il q.2.1 q.2.2) = true := by decide +kernel
theorem dk_m_can_0 : (m_can_c0.all fun q => decide (decode prog_11_method_51_code q.1 = .ok q.2) && am_il q.2.1 q.2.2) = true := by decide +kernel
theorem dk_m_odds_0 : (m_odds_c0.all fun q => decide (decode prog_11_method_53_code q.1 = .ok q.2) && am_il q.2.1 q.2.2) = true := by decide +kernel
theorem dk_m_odds_1 : (m_odds_c1.all fun q => decide (decode prog_11_method_53_code q.1 = .ok q.2) && am_il q.2.1 q.2.2) = true := by decide +kernel
theorem dk_m_part_0 : (m_part_c0.all fun q => decide (decode prog_11_method_52_code q.1 = .ok q.2) && am_il q.2.1 q.2.2) = true := by decide +kernel
theorem dk_jm_abs_0 : (jm_abs_c0.all fun q => decide (decode prog_14_method_61_code q.1 = .ok q.2) && am_il q.2.1 q.2.2) = true := by decide +kernel
theorem dk_m_mean_0 : (m_mean_c0.all fun q => decide (decode prog_11_method_55_code q.1 = .ok q.2) && am_il q.2.1 q.2.2) = true := by decide +kernel
theorem dk_m_allDrew_0 : (m_allDrew_c0.all fun q => decide (decode prog_11_method_54_code q.1 = .ok q.2) && am_il q.2.1 q.2.2) = true := by decide +kernel
theorem dk_m_plan_0 : (m_plan_c0.all fun q => decide (decode prog_11_method_56_code q.1 = .ok q.2) && am_il q.2.1 q.2.2) = true := by decide +kernel
theorem dk_m_ends_0 : (m_ends_c0.all fun q => decide (decode prog_11_method_57_code q.1 = .ok q.2) && am_il q.2.1 q.2.2) = true := by decide +kernel
theorem dk_m_ends_1 : (m_ends_c1.all fun q => decide (decode prog_11_method_57_code q.1 = .ok q.2) && am_il q.2.1 q.2.2) = true := by decide +kernel
theorem dk_m_book_0 : (m_book_c0.all fun q => decide (decode prog_11_method_58_code q.1 = .ok q.2) && am_il q.2.1 q.2.2) = true := by decide +kernel
theorem dk_m_looked_0 : (m_looked_c0.all fun q => decide (decode prog_11_method_59_code q.1 = .ok q.2) && am_il q.2.1 q.2.2) = true := by decide +kernel
theorem dk_m_judge_0 : (m_judge_c0.all fun q => decide (decode prog_11_method_60_code q.1 = .ok q.2) && am_il q.2.1 q.2.2) = true := by decide +kernel
theorem dk_m_judge_1 : (m_judge_c1.all fun q => decide (decode prog_11_method_60_code q.1 = .ok q.2) && am_il q.2.1 q.2.2) = true := by decide +kernel
theorem dk_m_image_0 : (m_image_c0.all fun q => decide (decode prog_11_method_63_code q.1 = .ok q.2) && am_il q.2.1 q.2.2) = true := by decide +kernel
theorem dk_m_undo_0 : (m_undo_c0.all fun q => decide (decode prog_11_method_64_code q.1 = .ok q.2) && am_il q.2.1 q.2.2) = true := by decide +kernel
theorem dk_m_act_0 : (m_act_c0.all fun q => decide (decode prog_11_method_70_code q.1 = .ok q.2) && am_il q.2.1 q.2.2) = true := by decide +kernel
theorem dk_m_weeps_0 : (m_weeps_c0.all fun q => decide (decode prog_11_method_67_code q.1 = .ok q.2) && am_il q.2.1 q.2.2) = true := by decide +kernel
theorem dk_m_ran_0 : (m_ran_c0.all fun q => decide (decode prog_11_method_65_code q.1 = .ok q.2) && am_il q.2.1 q.2.2) = true := by decide +kernel
theorem dk_m_above_0 : (m_above_c0.all fun q => decide (decode prog_11_method_66_code q.1 = .ok q.2) && am_il q.2.1 q.2.2) = true := by decide +kernel
theorem dk_m_draws_0 : (m_draws_c0.all fun q => decide (decode prog_11_method_68_code q.1 = .ok q.2) && am_il q.2.1 q.2.2) = true := by decide +kernel
theorem dk_m_draws_1 : (m_draws_c1.all fun q => decide (decode prog_11_method_68_code q.1 = .ok q.2) && am_il q.2.1 q.2.2) = true := by decide +kernel
theorem dk_m_tells_0 : (m_tells_c0.all fun q => decide (decode prog_11_method_69_code q.1 = .ok q.2) && am_il q.2.1 q.2.2) = true := by decide +kernel
theorem dk_m_trace_0 : (m_trace_c0.all fun q => decide (decode prog_11_method_71_code q.1 = .ok q.2) && am_il q.2.1 q.2.2) = true := by decide +kernel
theorem dk_m_taken_0 : (m_taken_c0.all fun q => decide (decode prog_11_method_72_code q.1 = .ok q.2) && am_il q.2.1 q.2.2) = true := by decide +kernel
theorem dk_m_count_0 : (m_count_c0.all fun q => decide (decode prog_11_method_73_code q.1 = .ok q.2) && am_il q.2.1 q.2.2) = true := by decide +kernel
theorem dk_m_tape_0 : (m_tape_c0.all fun q => decide (decode prog_11_method_75_code q.1 = .ok q.2) && am_il q.2.1 q.2.2) = true := by decide +kernel
theorem dk_m_isTape_0 : (m_isTape_c0.all fun q => decide (decode prog_11_method_74_code q.1 = .ok q.2) && am_il q.2.1 q.2.2) = true := by decide +kernel
theorem dk_m_item_0 : (m_item_c0.all fun q => decide (decode prog_11_method_77_code q.1 = .ok q.2) && am_il q.2.1 q.2.2) = true := by decide +kernel
theorem dk_m_kept_0 : (m_kept_c0.all fun q => decide (decode prog_11_method_76_code q.1 = .ok q.2) && am_il q.2.1 q.2.2) = true := by decide +kernel
theorem dk_m_read_0 : (m_read_c0.all fun q => decide (decode prog_11_method_78_code q.1 = .ok q.2) && am_il q.2.1 q.2.2) = true := by decide +kernel
theorem dk_m_shift_0 : (m_shift_c0.all fun q => decide (decode prog_11_method_79_code q.1 = .ok q.2) && am_il q.2.1 q.2.2) = true := by decide +kernel
theorem dk_m_shift_1 : (m_shift_c1.all fun q => decide (decode prog_11_method_79_code q.1 = .ok q.2) && am_il q.2.1 q.2.2) = true := by decide +kernel
theorem dk_m_shift_2 : (m_shift_c2.all fun q => decide (decode prog_11_method_79_code q.1 = .ok q.2) && am_il q.2.1 q.2.2) = true := by decide +kernel
theorem dk_L_law_0 : (L_law_c0.all fun q => decide (decode code q.1 = .ok q.2) && am_il q.2.1 q.2.2) = true := by decide +kernel
theorem dk_L_law_1 : (L_law_c1.all fun q => decide (decode code q.1 = .ok q.2) && am_il q.2.1 q.2.2) = true := by decide +kernel
theorem dk_L_law_2 : (L_law_c2.all fun q => decide (decode code q.1 = .ok q.2) && am_il q.2.1 q.2.2) = true := by decide +kernel
theorem dk_L_law_3 : (L_law_c3.all fun q => decide (decode code q.1 = .ok q.2) && am_il q.2.1 q.2.2) = true := by decide +kernel
theorem dk_L_law_4 : (L_law_c4.all fun q => decide (decode code q.1 = .ok q.2) && am_il q.2.1 q.2.2) = true := by decide +kernel
theorem dk_L_law_5 : (L_law_c5.all fun q => decide (decode code q.1 = .ok q.2) && am_il q.2.1 q.2.2) = true := by decide +kernel
theorem dk_L_law_6 : (L_law_c6.all fun q => decide (decode code q.1 = .ok q.2) && am_il q.2.1 q.2.2) = true := by decide +kernel
theorem dk_L_law_7 : (L_law_c7.all fun q => decide (decode code q.1 = .ok q.2) && am_il q.2.1 q.2.2) = true := by decide +kernel
theorem dk_L_law_8 : (L_law_c8.all fun q => decide (decode code q.1 = .ok q.2) && am_il q.2.1 q.2.2) = true := by decide +kernel
theorem dk_L_law_9 : (L_law_c9.all fun q => decide (decode code q.1 = .ok q.2) && am_il q.2.1 q.2.2) = true := by decide +kernel
theorem dk_L_law_10 : (L_law_c10.all fun q => decide (decode code q.1 = .ok q.2) && am_il q.2.1 q.2.2) = true := by decide +kernel
theorem dk_L_law_11 : (L_law_c11.all fun q => decide (decode code q.1 = .ok q.2) && am_il q.2.1 q.2.2) = true := by decide +kernel
theorem dk_L_law_12 : (L_law_c12.all fun q => decide (decode code q.1 = .ok q.2) && am_il q.2.1 q.2.2) = true := by decide +kernel
theorem dk_L_law_13 : (L_law_c13.all fun q => decide (decode code q.1 = .ok q.2) && am_il q.2.1 q.2.2) = true := by decide +kernel
theorem dk_L_law_14 : (L_law_c14.all fun q => decide (decode code q.1 = .ok q.2) && am_il q.2.1 q.2.2) = true := by decide +kernel
