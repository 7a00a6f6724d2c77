theorem dX6_init_1 : decode cX6_init 1 = .ok (.invokespecial 1, 3) := by decide +kernel
theorem dX6_init_7 : decode cX6_init 7 = .ok (.anewarray 9, 3) := by decide +kernel
theorem dX6_init_14 : decode cX6_init 14 = .ok (.new 15, 3) := by decide +kernel
theorem dX6_init_18 : decode cX6_init 18 = .ok (.invokespecial 17, 3) := by decide +kernel
theorem dX6_init_25 : decode cX6_init 25 = .ok (.new 22, 3) := by decide +kernel
theorem dX6_init_29 : decode cX6_init 29 = .ok (.invokespecial 24, 3) := by decide +kernel
theorem dX6_init_36 : decode cX6_init 36 = .ok (.new 29, 3) := by decide +kernel
theorem dX6_init_40 : decode cX6_init 40 = .ok (.invokespecial 31, 3) := by decide +kernel
theorem dX6_init_47 : decode cX6_init 47 = .ok (.new 36, 3) := by decide +kernel
theorem dX6_init_51 : decode cX6_init 51 = .ok (.invokespecial 38, 3) := by decide +kernel
theorem dX6_init_61 : decode cX6_init 61 = .ok (.newarray .int, 2) := by decide +kernel
theorem dX6_init_69 : decode cX6_init 69 = .ok (.newarray .int, 2) := by decide +kernel
theorem dX6_init_79 : decode cX6_init 79 = .ok (.if_icmp .ge 23, 3) := by decide +kernel
theorem dX6_init_87 : decode cX6_init 87 = .ok (.new 9, 3) := by decide +kernel
theorem dX6_init_92 : decode cX6_init 92 = .ok (.invokespecial 50, 3) := by decide +kernel
theorem dX6_init_95 : decode cX6_init 95 = .ok (.aastore, 1) := by decide +kernel
theorem dX6_init_109 : decode cX6_init 109 = .ok (.invokevirtual 53, 3) := by decide +kernel
theorem dX6_init_112 : decode cX6_init 112 = .ok (.return_, 1) := by decide +kernel
theorem dX2_init_1 : decode cX2_init 1 = .ok (.invokespecial 3, 3) := by decide +kernel
theorem dX2_init_6 : decode cX2_init 6 = .ok (.newarray .int, 2) := by decide +kernel
theorem dX2_init_15 : decode cX2_init 15 = .ok (.multianewarray 15 2, 4) := by decide +kernel
theorem dX2_init_26 : decode cX2_init 26 = .ok (.multianewarray 15 2, 4) := by decide +kernel
theorem dX2_init_33 : decode cX2_init 33 = .ok (.return_, 1) := by decide +kernel
theorem dX3_init_1 : decode cX3_init 1 = .ok (.invokespecial 3, 3) := by decide +kernel
theorem dX3_init_8 : decode cX3_init 8 = .ok (.newarray .int, 2) := by decide +kernel
theorem dX3_init_13 : decode cX3_init 13 = .ok (.return_, 1) := by decide +kernel
theorem dX4_init_1 : decode cX4_init 1 = .ok (.invokespecial 3, 3) := by decide +kernel
theorem dX4_init_7 : decode cX4_init 7 = .ok (.newarray .int, 2) := by decide +kernel
theorem dX4_init_15 : decode cX4_init 15 = .ok (.newarray .int, 2) := by decide +kernel
theorem dX4_init_23 : decode cX4_init 23 = .ok (.newarray .int, 2) := by decide +kernel
theorem dX4_init_31 : decode cX4_init 31 = .ok (.newarray .long, 2) := by decide +kernel
theorem dX4_init_36 : decode cX4_init 36 = .ok (.return_, 1) := by decide +kernel
theorem dX0_init_1 : decode cX0_init 1 = .ok (.invokespecial 1, 3) := by decide +kernel
theorem dX0_init_8 : decode cX0_init 8 = .ok (.newarray .long, 2) := by decide +kernel
theorem dX0_init_17 : decode cX0_init 17 = .ok (.newarray .int, 2) := by decide +kernel
theorem dX0_init_22 : decode cX0_init 22 = .ok (.return_, 1) := by decide +kernel
theorem dX1_init_1 : decode cX1_init 1 = .ok (.invokespecial 3, 3) := by decide +kernel
theorem dX1_init_6 : decode cX1_init 6 = .ok (.newarray .int, 2) := by decide +kernel
theorem dX1_init_13 : decode cX1_init 13 = .ok (.newarray .int, 2) := by decide +kernel
theorem dX1_init_20 : decode cX1_init 20 = .ok (.newarray .int, 2) := by decide +kernel
theorem dX1_init_26 : decode cX1_init 26 = .ok (.new 21, 3) := by decide +kernel
theorem dX1_init_31 : decode cX1_init 31 = .ok (.invokespecial 23, 3) := by decide +kernel
theorem dX1_init_38 : decode cX1_init 38 = .ok (.new 21, 3) := by decide +kernel
theorem dX1_init_43 : decode cX1_init 43 = .ok (.invokespecial 23, 3) := by decide +kernel
theorem dX1_init_49 : decode cX1_init 49 = .ok (.return_, 1) := by decide +kernel
theorem dX5_init_1 : decode cX5_init 1 = .ok (.invokespecial 1, 3) := by decide +kernel
theorem dX5_init_7 : decode cX5_init 7 = .ok (.newarray .int, 2) := by decide +kernel
theorem dX5_init_15 : decode cX5_init 15 = .ok (.newarray .int, 2) := by decide +kernel
theorem dX5_init_23 : decode cX5_init 23 = .ok (.newarray .int, 2) := by decide +kernel
theorem dX5_init_31 : decode cX5_init 31 = .ok (.newarray .int, 2) := by decide +kernel
theorem dX5_init_41 : decode cX5_init 41 = .ok (.return_, 1) := by decide +kernel
theorem dX6_begin_27 : decode cX6_begin 27 = .ok (.invokevirtual 77, 3) := by decide +kernel
theorem dX6_begin_34 : decode cX6_begin 34 = .ok (.invokevirtual 79, 3) := by decide +kernel
theorem dX6_begin_41 : decode cX6_begin 41 = .ok (.invokevirtual 81, 3) := by decide +kernel
theorem dX6_begin_49 : decode cX6_begin 49 = .ok (.invokestatic 82, 3) := by decide +kernel
theorem dX6_begin_59 : decode cX6_begin 59 = .ok (.if_icmp .ge 23, 3) := by decide +kernel
theorem dX6_begin_73 : decode cX6_begin 73 = .ok (.invokevirtual 88, 3) := by decide +kernel
theorem dX6_begin_82 : decode cX6_begin 82 = .ok (.return_, 1) := by decide +kernel
theorem dX2_begin_28 : decode cX2_begin 28 = .ok (.invokestatic 37, 3) := by decide +kernel
theorem dX2_begin_32 : decode cX2_begin 32 = .ok (.invokevirtual 43, 3) := by decide +kernel
theorem dX2_begin_35 : decode cX2_begin 35 = .ok (.return_, 1) := by decide +kernel
theorem dJ7_fill_53178_7 : decode cJ7_fill_53178 7 = .ok (.if_icmp .ge 13, 3) := by decide +kernel
theorem dJ7_fill_53178_20 : decode cJ7_fill_53178 20 = .ok (.return_, 1) := by decide +kernel
theorem dX2_forgetPleas_4 : decode cX2_forgetPleas 4 = .ok (.if_icmp .ge 19, 3) := by decide +kernel
theorem dX2_forgetPleas_14 : decode cX2_forgetPleas 14 = .ok (.invokestatic 37, 3) := by decide +kernel
theorem dX2_forgetPleas_23 : decode cX2_forgetPleas 23 = .ok (.return_, 1) := by decide +kernel
theorem dX3_begin_10 : decode cX3_begin 10 = .ok (.return_, 1) := by decide +kernel
theorem dX0_begin_15 : decode cX0_begin 15 = .ok (.return_, 1) := by decide +kernel
theorem dX1_begin_4 : decode cX1_begin 4 = .ok (.invokevirtual 33, 3) := by decide +kernel
theorem dX1_begin_11 : decode cX1_begin 11 = .ok (.invokevirtual 33, 3) := by decide +kernel
theorem dX1_begin_19 : decode cX1_begin 19 = .ok (.invokestatic 36, 3) := by decide +kernel
theorem dX1_begin_27 : decode cX1_begin 27 = .ok (.invokestatic 36, 3) := by decide +kernel
theorem dX1_begin_35 : decode cX1_begin 35 = .ok (.invokestatic 36, 3) := by decide +kernel
theorem dX1_begin_58 : decode cX1_begin 58 = .ok (.return_, 1) := by decide +kernel
theorem dX5_begin_15 : decode cX5_begin 15 = .ok (.return_, 1) := by decide +kernel
theorem dX6_desk_8 : decode cX6_desk 8 = .ok (.if_icmp .eq 5, 3) := by decide +kernel
theorem dX6_desk_12 : decode cX6_desk 12 = .ok (.ireturn, 1) := by decide +kernel
theorem dX6_desk_18 : decode cX6_desk 18 = .ok (.ifCond .ne 7, 3) := by decide +kernel
theorem dX6_desk_30 : decode cX6_desk 30 = .ok (.ifCond .eq 10, 3) := by decide +kernel
theorem dX6_desk_37 : decode cX6_desk 37 = .ok (.invokevirtual 163, 3) := by decide +kernel
theorem dX6_desk_41 : decode cX6_desk 41 = .ok (.ireturn, 1) := by decide +kernel
theorem dX6_there_8 : decode cX6_there 8 = .ok (.invokestatic 166, 3) := by decide +kernel
theorem dX6_there_14 : decode cX6_there 14 = .ok (.if_icmp .ne 7, 3) := by decide +kernel
theorem dX6_there_30 : decode cX6_there 30 = .ok (.ireturn, 1) := by decide +kernel
theorem dX6_slotOf_1 : decode cX6_slotOf 1 = .ok (.ifCond .lt 21, 3) := by decide +kernel
theorem dX6_slotOf_8 : decode cX6_slotOf 8 = .ok (.if_icmp .lt 14, 3) := by decide +kernel
theorem dX6_slotOf_15 : decode cX6_slotOf 15 = .ok (.if_icmp .gt 7, 3) := by decide +kernel
theorem dX6_slotOf_25 : decode cX6_slotOf 25 = .ok (.ifCond .eq 9, 3) := by decide +kernel
theorem dX6_slotOf_35 : decode cX6_slotOf 35 = .ok (.ireturn, 1) := by decide +kernel
theorem dX6_used_1 : decode cX6_used 1 = .ok (.invokestatic 130, 3) := by decide +kernel
theorem dX6_used_4 : decode cX6_used 4 = .ok (.ifCond .eq 12, 3) := by decide +kernel
theorem dX6_used_17 : decode cX6_used 17 = .ok (.ireturn, 1) := by decide +kernel
theorem dX6_isCounted_1 : decode cX6_isCounted 1 = .ok (.ifCond .lt 14, 3) := by decide +kernel
theorem dX6_isCounted_8 : decode cX6_isCounted 8 = .ok (.if_icmp .ge 7, 3) := by decide +kernel
theorem dX6_isCounted_16 : decode cX6_isCounted 16 = .ok (.ireturn, 1) := by decide +kernel
theorem dL_setup_6 : decode cL_setup 6 = .ok (.invokevirtual 7, 3) := by decide +kernel
theorem dL_setup_15 : decode cL_setup 15 = .ok (.ireturn, 1) := by decide +kernel
theorem dL_setup_17 : decode cL_setup 17 = .ok (.ireturn, 1) := by decide +kernel
theorem dX6_setup_2 : decode cX6_setup 2 = .ok (.if_icmp .lt 21, 3) := by decide +kernel
theorem dX6_setup_8 : decode cX6_setup 8 = .ok (.if_icmp .gt 15, 3) := by decide +kernel
theorem dX6_setup_13 : decode cX6_setup 13 = .ok (.if_icmp .lt 10, 3) := by decide +kernel
theorem dX6_setup_20 : decode cX6_setup 20 = .ok (.if_icmp .le 11, 3) := by decide +kernel
theorem dX6_setup_23 : decode cX6_setup 23 = .ok (.new 58, 3) := by decide +kernel
theorem dX6_setup_27 : decode cX6_setup 27 = .ok (.invokespecial 60, 3) := by decide +kernel
theorem dX6_setup_30 : decode cX6_setup 30 = .ok (.athrow, 1) := by decide +kernel
theorem dX6_setup_32 : decode cX6_setup 32 = .ok (.ifCond .lt 28, 3) := by decide +kernel
theorem dX6_setup_44 : decode cX6_setup 44 = .ok (.ifCond .ge 16, 3) := by decide +kernel
theorem dX6_setup_50 : decode cX6_setup 50 = .ok (.if_icmp .lt 10, 3) := by decide +kernel
theorem dX6_setup_57 : decode cX6_setup 57 = .ok (.if_icmp .le 11, 3) := by decide +kernel
theorem dX6_setup_60 : decode cX6_setup 60 = .ok (.new 58, 3) := by decide +kernel
theorem dX6_setup_64 : decode cX6_setup 64 = .ok (.invokespecial 60, 3) := by decide +kernel
theorem dX6_setup_67 : decode cX6_setup 67 = .ok (.athrow, 1) := by decide +kernel
theorem dX6_setup_74 : decode cX6_setup 74 = .ok (.invokevirtual 53, 3) := by decide +kernel
theorem dX6_setup_77 : decode cX6_setup 77 = .ok (.return_, 1) := by decide +kernel
theorem dL_pass_2 : decode cL_pass 2 = .ok (.invokevirtual 15, 3) := by decide +kernel
theorem dL_pass_10 : decode cL_pass 10 = .ok (.ireturn, 1) := by decide +kernel
theorem dL_pass_12 : decode cL_pass 12 = .ok (.ireturn, 1) := by decide +kernel
theorem dX6_pass_1 : decode cX6_pass 1 = .ok (.ifCond .lt 9, 3) := by decide +kernel
theorem dX6_pass_7 : decode cX6_pass 7 = .ok (.if_icmp .le 11, 3) := by decide +kernel
theorem dX6_pass_10 : decode cX6_pass 10 = .ok (.new 58, 3) := by decide +kernel
theorem dX6_pass_14 : decode cX6_pass 14 = .ok (.invokespecial 60, 3) := by decide +kernel
theorem dX6_pass_17 : decode cX6_pass 17 = .ok (.athrow, 1) := by decide +kernel
theorem dX6_pass_41 : decode cX6_pass 41 = .ok (.invokestatic 91, 3) := by decide +kernel
theorem dX6_pass_44 : decode cX6_pass 44 = .ok (.invokevirtual 95, 3) := by decide +kernel
theorem dX6_pass_54 : decode cX6_pass 54 = .ok (.if_icmp .ge 26, 3) := by decide +kernel
theorem dX6_pass_71 : decode cX6_pass 71 = .ok (.invokevirtual 98, 3) := by decide +kernel
theorem dX6_pass_80 : decode cX6_pass 80 = .ok (.return_, 1) := by decide +kernel
theorem dX6_windowAt_2 : decode cX6_windowAt 2 = .ok (.if_icmp .ge 7, 3) := by decide +kernel
theorem dX6_windowAt_14 : decode cX6_windowAt 14 = .ok (.ireturn, 1) := by decide +kernel
theorem dX2_turnTo_4 : decode cX2_turnTo 4 = .ok (.if_icmp .gt 32, 3) := by decide +kernel
theorem dX2_turnTo_16 : decode cX2_turnTo 16 = .ok (.if_icmp .le 14, 3) := by decide +kernel
theorem dX2_turnTo_24 : decode cX2_turnTo 24 = .ok (.invokestatic 46, 3) := by decide +kernel
theorem dX2_turnTo_27 : decode cX2_turnTo 27 = .ok (.invokevirtual 52, 3) := by decide +kernel
theorem dX2_turnTo_41 : decode cX2_turnTo 41 = .ok (.return_, 1) := by decide +kernel
theorem dJ9_floorMod_7cf53_7 : decode cJ9_floorMod_7cf53 7 = .ok (.ifCond .ge 11, 3) := by decide +kernel
theorem dJ9_floorMod_7cf53_11 : decode cJ9_floorMod_7cf53 11 = .ok (.ifCond .eq 7, 3) := by decide +kernel
theorem dJ9_floorMod_7cf53_17 : decode cJ9_floorMod_7cf53 17 = .ok (.ireturn, 1) := by decide +kernel
theorem dJ9_floorMod_7cf53_19 : decode cJ9_floorMod_7cf53 19 = .ok (.ireturn, 1) := by decide +kernel
theorem dX2_renew_17 : decode cX2_renew 17 = .ok (.invokestatic 37, 3) := by decide +kernel
theorem dX2_renew_20 : decode cX2_renew 20 = .ok (.return_, 1) := by decide +kernel
theorem dX1_look_12 : decode cX1_look 12 = .ok (.invokestatic 57, 3) := by decide +kernel
theorem dX1_look_23 : decode cX1_look 23 = .ok (.invokestatic 63, 3) := by decide +kernel
theorem dX1_look_34 : decode cX1_look 34 = .ok (.if_icmp .gt 36, 3) := by decide +kernel
theorem dX1_look_48 : decode cX1_look 48 = .ok (.if_icmp .le 16, 3) := by decide +kernel
theorem dX1_look_58 : decode cX1_look 58 = .ok (.invokestatic 67, 3) := by decide +kernel
theorem dX1_look_61 : decode cX1_look 61 = .ok (.invokevirtual 71, 3) := by decide +kernel
theorem dX1_look_76 : decode cX1_look 76 = .ok (.return_, 1) := by decide +kernel
theorem dJ9_max_f86c9_3 : decode cJ9_max_f86c9 3 = .ok (.ifCond .lt 7, 3) := by decide +kernel
theorem dJ9_max_f86c9_11 : decode cJ9_max_f86c9 11 = .ok (.lreturn, 1) := by decide +kernel
theorem dX1_drop_21 : decode cX1_drop 21 = .ok (.return_, 1) := by decide +kernel
theorem dL_error_3 : decode cL_error 3 = .ok (.invokevirtual 19, 3) := by decide +kernel
theorem dL_error_11 : decode cL_error 11 = .ok (.ireturn, 1) := by decide +kernel
theorem dL_error_14 : decode cL_error 14 = .ok (.ireturn, 1) := by decide +kernel
theorem dL_error_16 : decode cL_error 16 = .ok (.ireturn, 1) := by decide +kernel
theorem dX6_error_2 : decode cX6_error 2 = .ok (.invokevirtual 102, 3) := by decide +kernel
theorem dX6_error_12 : decode cX6_error 12 = .ok (.if_icmp .lt 11, 3) := by decide +kernel
theorem dX6_error_20 : decode cX6_error 20 = .ok (.if_icmp .le 11, 3) := by decide +kernel
theorem dX6_error_23 : decode cX6_error 23 = .ok (.new 58, 3) := by decide +kernel
theorem dX6_error_27 : decode cX6_error 27 = .ok (.invokespecial 60, 3) := by decide +kernel
theorem dX6_error_30 : decode cX6_error 30 = .ok (.athrow, 1) := by decide +kernel
theorem dX6_error_45 : decode cX6_error 45 = .ok (.invokevirtual 98, 3) := by decide +kernel
theorem dX6_error_48 : decode cX6_error 48 = .ok (.return_, 1) := by decide +kernel
theorem dX6_gateAt_1 : decode cX6_gateAt 1 = .ok (.ifCond .lt 11, 3) := by decide +kernel
theorem dX6_gateAt_9 : decode cX6_gateAt 9 = .ok (.if_icmp .lt 11, 3) := by decide +kernel
theorem dX6_gateAt_12 : decode cX6_gateAt 12 = .ok (.new 292, 3) := by decide +kernel
theorem dX6_gateAt_16 : decode cX6_gateAt 16 = .ok (.invokespecial 294, 3) := by decide +kernel
theorem dX6_gateAt_19 : decode cX6_gateAt 19 = .ok (.athrow, 1) := by decide +kernel
theorem dX6_gateAt_26 : decode cX6_gateAt 26 = .ok (.areturn, 1) := by decide +kernel
theorem dL_rule_2 : decode cL_rule 2 = .ok (.invokevirtual 25, 3) := by decide +kernel
theorem dL_rule_10 : decode cL_rule 10 = .ok (.ireturn, 1) := by decide +kernel
theorem dL_rule_12 : decode cL_rule 12 = .ok (.ireturn, 1) := by decide +kernel
theorem dX6_rule_1 : decode cX6_rule 1 = .ok (.ifCond .lt 8, 3) := by decide +kernel
theorem dX6_rule_6 : decode cX6_rule 6 = .ok (.if_icmp .le 11, 3) := by decide +kernel
theorem dX6_rule_9 : decode cX6_rule 9 = .ok (.new 58, 3) := by decide +kernel
theorem dX6_rule_13 : decode cX6_rule 13 = .ok (.invokespecial 60, 3) := by decide +kernel
theorem dX6_rule_16 : decode cX6_rule 16 = .ok (.athrow, 1) := by decide +kernel
theorem dX6_rule_25 : decode cX6_rule 25 = .ok (.return_, 1) := by decide +kernel
theorem dL_admit_5 : decode cL_admit 5 = .ok (.invokevirtual 28, 3) := by decide +kernel
theorem dL_admit_16 : decode cL_admit 16 = .ok (.ireturn, 1) := by decide +kernel
theorem dL_admit_20 : decode cL_admit 20 = .ok (.ireturn, 1) := by decide +kernel
theorem dL_admit_24 : decode cL_admit 24 = .ok (.ireturn, 1) := by decide +kernel
theorem dL_admit_26 : decode cL_admit 26 = .ok (.ireturn, 1) := by decide +kernel
theorem dX6_admit_2 : decode cX6_admit 2 = .ok (.invokevirtual 102, 3) := by decide +kernel
theorem dX6_admit_8 : decode cX6_admit 8 = .ok (.if_icmp .lt 10, 3) := by decide +kernel
theorem dX6_admit_15 : decode cX6_admit 15 = .ok (.if_icmp .le 11, 3) := by decide +kernel
theorem dX6_admit_18 : decode cX6_admit 18 = .ok (.new 58, 3) := by decide +kernel
theorem dX6_admit_22 : decode cX6_admit 22 = .ok (.invokespecial 60, 3) := by decide +kernel
theorem dX6_admit_25 : decode cX6_admit 25 = .ok (.athrow, 1) := by decide +kernel
theorem dX6_admit_30 : decode cX6_admit 30 = .ok (.invokestatic 116, 3) := by decide +kernel
theorem dX6_admit_35 : decode cX6_admit 35 = .ok (.invokevirtual 120, 3) := by decide +kernel
theorem dX6_admit_42 : decode cX6_admit 42 = .ok (.ifCond .le 40, 3) := by decide +kernel
theorem dX6_admit_55 : decode cX6_admit 55 = .ok (.invokevirtual 124, 3) := by decide +kernel
theorem dX6_admit_62 : decode cX6_admit 62 = .ok (.invokestatic 130, 3) := by decide +kernel
theorem dX6_admit_65 : decode cX6_admit 65 = .ok (.ifCond .eq 17, 3) := by decide +kernel
theorem dX6_admit_84 : decode cX6_admit 84 = .ok (.ireturn, 1) := by decide +kernel
theorem dX6_mustBeUp_1 : decode cX6_mustBeUp 1 = .ok (.ifCond .ne 11, 3) := by decide +kernel
theorem dX6_mustBeUp_4 : decode cX6_mustBeUp 4 = .ok (.new 295, 3) := by decide +kernel
theorem dX6_mustBeUp_8 : decode cX6_mustBeUp 8 = .ok (.invokespecial 297, 3) := by decide +kernel
theorem dX6_mustBeUp_11 : decode cX6_mustBeUp 11 = .ok (.athrow, 1) := by decide +kernel
theorem dX6_mustBeUp_12 : decode cX6_mustBeUp 12 = .ok (.return_, 1) := by decide +kernel
theorem dX1_spend_8 : decode cX1_spend 8 = .ok (.invokestatic 74, 3) := by decide +kernel
theorem dX1_spend_14 : decode cX1_spend 14 = .ok (.if_icmp .ne 5, 3) := by decide +kernel
theorem dX1_spend_18 : decode cX1_spend 18 = .ok (.ireturn, 1) := by decide +kernel
theorem dX1_spend_33 : decode cX1_spend 33 = .ok (.invokestatic 77, 3) := by decide +kernel
theorem dX1_spend_61 : decode cX1_spend 61 = .ok (.invokestatic 80, 3) := by decide +kernel
theorem dX1_spend_101 : decode cX1_spend 101 = .ok (.invokestatic 77, 3) := by decide +kernel
theorem dX1_spend_106 : decode cX1_spend 106 = .ok (.ireturn, 1) := by decide +kernel
theorem dJ9_min_7cf53_2 : decode cJ9_min_7cf53 2 = .ok (.if_icmp .gt 7, 3) := by decide +kernel
theorem dJ9_min_7cf53_10 : decode cJ9_min_7cf53 10 = .ok (.ireturn, 1) := by decide +kernel
theorem dJ9_max_7cf53_2 : decode cJ9_max_7cf53 2 = .ok (.if_icmp .lt 7, 3) := by decide +kernel
theorem dJ9_max_7cf53_10 : decode cJ9_max_7cf53 10 = .ok (.ireturn, 1) := by decide +kernel
theorem dX0_add_4 : decode cX0_add 4 = .ok (.ifCond .eq 23, 3) := by decide +kernel
theorem dX0_add_18 : decode cX0_add 18 = .ok (.invokevirtual 27, 3) := by decide +kernel
theorem dX0_add_24 : decode cX0_add 24 = .ok (.ifCond .eq 8, 3) := by decide +kernel
theorem dX0_add_29 : decode cX0_add 29 = .ok (.invokevirtual 31, 3) := by decide +kernel
theorem dX0_add_43 : decode cX0_add 43 = .ok (.invokevirtual 27, 3) := by decide +kernel
theorem dX0_add_69 : decode cX0_add 69 = .ok (.if_icmp .ge 31, 3) := by decide +kernel
theorem dX0_add_79 : decode cX0_add 79 = .ok (.if_icmp .le 21, 3) := by decide +kernel
theorem dX0_add_91 : decode cX0_add 91 = .ok (.invokevirtual 35, 3) := by decide +kernel
theorem dX0_add_100 : decode cX0_add 100 = .ok (.return_, 1) := by decide +kernel
theorem dX0_row_10 : decode cX0_row 10 = .ok (.ireturn, 1) := by decide +kernel
theorem dX0_openRow_7 : decode cX0_openRow 7 = .ok (.if_icmp .lt 16, 3) := by decide +kernel
theorem dX0_openRow_20 : decode cX0_openRow 20 = .ok (.invokevirtual 35, 3) := by decide +kernel
theorem dX0_openRow_44 : decode cX0_openRow 44 = .ok (.invokevirtual 27, 3) := by decide +kernel
theorem dX0_openRow_60 : decode cX0_openRow 60 = .ok (.invokevirtual 27, 3) := by decide +kernel
theorem dX0_openRow_65 : decode cX0_openRow 65 = .ok (.return_, 1) := by decide +kernel
theorem dX0_forgetOldest_10 : decode cX0_forgetOldest 10 = .ok (.invokestatic 39, 3) := by decide +kernel
theorem dX0_forgetOldest_46 : decode cX0_forgetOldest 46 = .ok (.ifCond .ne 22, 3) := by decide +kernel
theorem dX0_forgetOldest_52 : decode cX0_forgetOldest 52 = .ok (.invokevirtual 27, 3) := by decide +kernel
theorem dX0_forgetOldest_68 : decode cX0_forgetOldest 68 = .ok (.return_, 1) := by decide +kernel
theorem dL_plead_3 : decode cL_plead 3 = .ok (.invokevirtual 34, 3) := by decide +kernel
theorem dL_plead_11 : decode cL_plead 11 = .ok (.ireturn, 1) := by decide +kernel
theorem dL_plead_14 : decode cL_plead 14 = .ok (.ireturn, 1) := by decide +kernel
theorem dL_plead_17 : decode cL_plead 17 = .ok (.ireturn, 1) := by decide +kernel
theorem dL_plead_20 : decode cL_plead 20 = .ok (.ireturn, 1) := by decide +kernel
theorem dL_plead_22 : decode cL_plead 22 = .ok (.ireturn, 1) := by decide +kernel
theorem dX6_plead_2 : decode cX6_plead 2 = .ok (.invokevirtual 102, 3) := by decide +kernel
theorem dX6_plead_8 : decode cX6_plead 8 = .ok (.if_icmp .lt 9, 3) := by decide +kernel
theorem dX6_plead_14 : decode cX6_plead 14 = .ok (.if_icmp .le 11, 3) := by decide +kernel
theorem dX6_plead_17 : decode cX6_plead 17 = .ok (.new 58, 3) := by decide +kernel
theorem dX6_plead_21 : decode cX6_plead 21 = .ok (.invokespecial 60, 3) := by decide +kernel
theorem dX6_plead_24 : decode cX6_plead 24 = .ok (.athrow, 1) := by decide +kernel
theorem dX6_plead_29 : decode cX6_plead 29 = .ok (.invokestatic 116, 3) := by decide +kernel
theorem dX6_plead_36 : decode cX6_plead 36 = .ok (.invokestatic 138, 3) := by decide +kernel
theorem dX6_plead_60 : decode cX6_plead 60 = .ok (.invokevirtual 142, 3) := by decide +kernel
theorem dX6_plead_63 : decode cX6_plead 63 = .ok (.invokevirtual 145, 3) := by decide +kernel
theorem dX6_plead_66 : decode cX6_plead 66 = .ok (.return_, 1) := by decide +kernel
theorem dX6_mustBeOpen_1 : decode cX6_mustBeOpen 1 = .ok (.invokevirtual 177, 3) := by decide +kernel
theorem dX6_mustBeOpen_4 : decode cX6_mustBeOpen 4 = .ok (.ifCond .eq 11, 3) := by decide +kernel
theorem dX6_mustBeOpen_7 : decode cX6_mustBeOpen 7 = .ok (.new 298, 3) := by decide +kernel
theorem dX6_mustBeOpen_11 : decode cX6_mustBeOpen 11 = .ok (.invokespecial 300, 3) := by decide +kernel
theorem dX6_mustBeOpen_14 : decode cX6_mustBeOpen 14 = .ok (.athrow, 1) := by decide +kernel
theorem dX6_mustBeOpen_15 : decode cX6_mustBeOpen 15 = .ok (.return_, 1) := by decide +kernel
theorem dX5_isShut_11 : decode cX5_isShut 11 = .ok (.if_icmp .lt 7, 3) := by decide +kernel
theorem dX5_isShut_19 : decode cX5_isShut 19 = .ok (.ireturn, 1) := by decide +kernel
theorem dX1_spentIn_5 : decode cX1_spentIn 5 = .ok (.invokestatic 74, 3) := by decide +kernel
theorem dX1_spentIn_11 : decode cX1_spentIn 11 = .ok (.if_icmp .ne 7, 3) := by decide +kernel
theorem dX1_spentIn_24 : decode cX1_spentIn 24 = .ok (.ireturn, 1) := by decide +kernel
theorem dX5_send_16 : decode cX5_send 16 = .ok (.invokestatic 35, 3) := by decide +kernel
theorem dX5_send_70 : decode cX5_send 70 = .ok (.invokevirtual 41, 3) := by decide +kernel
theorem dX5_send_73 : decode cX5_send 73 = .ok (.return_, 1) := by decide +kernel
theorem dX3_put_7 : decode cX3_put 7 = .ok (.if_icmp .lt 4, 3) := by decide +kernel
theorem dX3_put_10 : decode cX3_put 10 = .ok (.return_, 1) := by decide +kernel
theorem dX3_put_102 : decode cX3_put 102 = .ok (.return_, 1) := by decide +kernel
theorem dL_back_4 : decode cL_back 4 = .ok (.invokevirtual 39, 3) := by decide +kernel
theorem dL_back_13 : decode cL_back 13 = .ok (.ireturn, 1) := by decide +kernel
theorem dL_back_17 : decode cL_back 17 = .ok (.ireturn, 1) := by decide +kernel
theorem dL_back_21 : decode cL_back 21 = .ok (.ireturn, 1) := by decide +kernel
theorem dL_back_25 : decode cL_back 25 = .ok (.ireturn, 1) := by decide +kernel
theorem dL_back_27 : decode cL_back 27 = .ok (.ireturn, 1) := by decide +kernel
theorem dX6_back_2 : decode cX6_back 2 = .ok (.invokevirtual 102, 3) := by decide +kernel
theorem dX6_back_12 : decode cX6_back 12 = .ok (.invokestatic 116, 3) := by decide +kernel
theorem dX6_back_17 : decode cX6_back 17 = .ok (.if_icmp .lt 13, 3) := by decide +kernel
theorem dX6_back_24 : decode cX6_back 24 = .ok (.invokevirtual 151, 3) := by decide +kernel
theorem dX6_back_27 : decode cX6_back 27 = .ok (.if_icmp .le 11, 3) := by decide +kernel
theorem dX6_back_30 : decode cX6_back 30 = .ok (.new 58, 3) := by decide +kernel
theorem dX6_back_34 : decode cX6_back 34 = .ok (.invokespecial 60, 3) := by decide +kernel
theorem dX6_back_37 : decode cX6_back 37 = .ok (.athrow, 1) := by decide +kernel
theorem dX6_back_43 : decode cX6_back 43 = .ok (.invokestatic 138, 3) := by decide +kernel
theorem dX6_back_51 : decode cX6_back 51 = .ok (.invokevirtual 154, 3) := by decide +kernel
theorem dX6_back_67 : decode cX6_back 67 = .ok (.invokevirtual 145, 3) := by decide +kernel
theorem dX6_back_70 : decode cX6_back 70 = .ok (.return_, 1) := by decide +kernel
theorem dX1_freeIn_5 : decode cX1_freeIn 5 = .ok (.invokestatic 74, 3) := by decide +kernel
theorem dX1_freeIn_11 : decode cX1_freeIn 11 = .ok (.if_icmp .ne 7, 3) := by decide +kernel
theorem dX1_freeIn_31 : decode cX1_freeIn 31 = .ok (.ireturn, 1) := by decide +kernel
theorem dX1_addShare_5 : decode cX1_addShare 5 = .ok (.invokestatic 74, 3) := by decide +kernel
theorem dX1_addShare_11 : decode cX1_addShare 11 = .ok (.if_icmp .eq 13, 3) := by decide +kernel
theorem dX1_addShare_24 : decode cX1_addShare 24 = .ok (.return_, 1) := by decide +kernel
theorem dL_split_3 : decode cL_split 3 = .ok (.invokevirtual 43, 3) := by decide +kernel
theorem dL_split_13 : decode cL_split 13 = .ok (.ireturn, 1) := by decide +kernel
theorem dL_split_15 : decode cL_split 15 = .ok (.ireturn, 1) := by decide +kernel
theorem dX6_split_7 : decode cX6_split 7 = .ok (.invokestatic 116, 3) := by decide +kernel
theorem dX6_split_16 : decode cX6_split 16 = .ok (.if_icmp .gt 25, 3) := by decide +kernel
theorem dX6_split_30 : decode cX6_split 30 = .ok (.invokevirtual 160, 3) := by decide +kernel
theorem dX6_split_45 : decode cX6_split 45 = .ok (.invokevirtual 163, 3) := by decide +kernel
theorem dX6_split_49 : decode cX6_split 49 = .ok (.ireturn, 1) := by decide +kernel
theorem dX6_shareOut_8 : decode cX6_shareOut 8 = .ok (.invokestatic 166, 3) := by decide +kernel
theorem dX6_shareOut_14 : decode cX6_shareOut 14 = .ok (.if_icmp .ne 5, 3) := by decide +kernel
theorem dX6_shareOut_18 : decode cX6_shareOut 18 = .ok (.ireturn, 1) := by decide +kernel
theorem dX6_shareOut_32 : decode cX6_shareOut 32 = .ok (.invokevirtual 173, 3) := by decide +kernel
theorem dX6_shareOut_42 : decode cX6_shareOut 42 = .ok (.if_icmp .ge 54, 3) := by decide +kernel
theorem dX6_shareOut_54 : decode cX6_shareOut 54 = .ok (.invokevirtual 177, 3) := by decide +kernel
theorem dX6_shareOut_57 : decode cX6_shareOut 57 = .ok (.ifCond .ne 33, 3) := by decide +kernel
theorem dX6_shareOut_87 : decode cX6_shareOut 87 = .ok (.invokevirtual 188, 3) := by decide +kernel
theorem dX6_shareOut_104 : decode cX6_shareOut 104 = .ok (.if_icmp .ne 13, 3) := by decide +kernel
theorem dX6_shareOut_111 : decode cX6_shareOut 111 = .ok (.invokevirtual 192, 3) := by decide +kernel
theorem dX6_shareOut_121 : decode cX6_shareOut 121 = .ok (.invokevirtual 195, 3) := by decide +kernel
theorem dX6_shareOut_135 : decode cX6_shareOut 135 = .ok (.if_icmp .ge 34, 3) := by decide +kernel
theorem dX6_shareOut_158 : decode cX6_shareOut 158 = .ok (.invokevirtual 201, 3) := by decide +kernel
theorem dX6_shareOut_170 : decode cX6_shareOut 170 = .ok (.ireturn, 1) := by decide +kernel
theorem dX4_begin_10 : decode cX4_begin 10 = .ok (.invokestatic 29, 3) := by decide +kernel
theorem dX4_begin_18 : decode cX4_begin 18 = .ok (.invokestatic 29, 3) := by decide +kernel
theorem dX4_begin_26 : decode cX4_begin 26 = .ok (.invokestatic 29, 3) := by decide +kernel
theorem dX4_begin_29 : decode cX4_begin 29 = .ok (.return_, 1) := by decide +kernel
theorem dX4_enter_14 : decode cX4_enter 14 = .ok (.return_, 1) := by decide +kernel
theorem dX4_giveByUse_5 : decode cX4_giveByUse 5 = .ok (.if_icmp .ge 48, 3) := by decide +kernel
theorem dX4_giveByUse_12 : decode cX4_giveByUse 12 = .ok (.ifCond .le 41, 3) := by decide +kernel
theorem dX4_giveByUse_16 : decode cX4_giveByUse 16 = .ok (.invokevirtual 39, 3) := by decide +kernel
theorem dX4_giveByUse_19 : decode cX4_giveByUse 19 = .ok (.ifCond .le 34, 3) := by decide +kernel
theorem dX4_giveByUse_23 : decode cX4_giveByUse 23 = .ok (.invokevirtual 60, 3) := by decide +kernel
theorem dX4_giveByUse_30 : decode cX4_giveByUse 30 = .ok (.ifCond .gt 8, 3) := by decide +kernel
theorem dX4_giveByUse_34 : decode cX4_giveByUse 34 = .ok (.invokevirtual 64, 3) := by decide +kernel
theorem dX4_giveByUse_37 : decode cX4_giveByUse 37 = .ok (.return_, 1) := by decide +kernel
theorem dX4_giveByUse_40 : decode cX4_giveByUse 40 = .ok (.invokevirtual 67, 3) := by decide +kernel
theorem dX4_giveByUse_44 : decode cX4_giveByUse 44 = .ok (.invokevirtual 71, 3) := by decide +kernel
theorem dX4_giveByUse_53 : decode cX4_giveByUse 53 = .ok (.return_, 1) := by decide +kernel
theorem dX4_wantingGates_7 : decode cX4_wantingGates 7 = .ok (.if_icmp .ge 25, 3) := by decide +kernel
theorem dX4_wantingGates_13 : decode cX4_wantingGates 13 = .ok (.invokevirtual 35, 3) := by decide +kernel
theorem dX4_wantingGates_16 : decode cX4_wantingGates 16 = .ok (.ifCond .eq 7, 3) := by decide +kernel
theorem dX4_wantingGates_33 : decode cX4_wantingGates 33 = .ok (.ireturn, 1) := by decide +kernel
theorem dX4_wantsMore_12 : decode cX4_wantsMore 12 = .ok (.if_icmp .ge 7, 3) := by decide +kernel
theorem dX4_wantsMore_20 : decode cX4_wantsMore 20 = .ok (.ireturn, 1) := by decide +kernel
theorem dX4_useOfWanting_7 : decode cX4_useOfWanting 7 = .ok (.if_icmp .ge 31, 3) := by decide +kernel
theorem dX4_useOfWanting_13 : decode cX4_useOfWanting 13 = .ok (.invokevirtual 35, 3) := by decide +kernel
theorem dX4_useOfWanting_16 : decode cX4_useOfWanting 16 = .ok (.ifCond .eq 13, 3) := by decide +kernel
theorem dX4_useOfWanting_39 : decode cX4_useOfWanting 39 = .ok (.lreturn, 1) := by decide +kernel
theorem dX4_giveEqually_1 : decode cX4_giveEqually 1 = .ok (.invokevirtual 39, 3) := by decide +kernel
theorem dX4_giveEqually_10 : decode cX4_giveEqually 10 = .ok (.if_icmp .ge 58, 3) := by decide +kernel
theorem dX4_giveEqually_17 : decode cX4_giveEqually 17 = .ok (.ifCond .le 51, 3) := by decide +kernel
theorem dX4_giveEqually_21 : decode cX4_giveEqually 21 = .ok (.ifCond .le 47, 3) := by decide +kernel
theorem dX4_giveEqually_29 : decode cX4_giveEqually 29 = .ok (.if_icmp .ge 11, 3) := by decide +kernel
theorem dX4_giveEqually_34 : decode cX4_giveEqually 34 = .ok (.invokevirtual 43, 3) := by decide +kernel
theorem dX4_giveEqually_48 : decode cX4_giveEqually 48 = .ok (.invokevirtual 47, 3) := by decide +kernel
theorem dX4_giveEqually_51 : decode cX4_giveEqually 51 = .ok (.invokestatic 50, 3) := by decide +kernel
theorem dX4_giveEqually_54 : decode cX4_giveEqually 54 = .ok (.invokevirtual 43, 3) := by decide +kernel
theorem dX4_giveEqually_58 : decode cX4_giveEqually 58 = .ok (.invokevirtual 39, 3) := by decide +kernel
theorem dX4_giveEqually_68 : decode cX4_giveEqually 68 = .ok (.return_, 1) := by decide +kernel
theorem dX4_giveLayer_5 : decode cX4_giveLayer 5 = .ok (.if_icmp .ge 31, 3) := by decide +kernel
theorem dX4_giveLayer_13 : decode cX4_giveLayer 13 = .ok (.if_icmp .lt 23, 3) := by decide +kernel
theorem dX4_giveLayer_18 : decode cX4_giveLayer 18 = .ok (.invokevirtual 35, 3) := by decide +kernel
theorem dX4_giveLayer_21 : decode cX4_giveLayer 21 = .ok (.ifCond .eq 9, 3) := by decide +kernel
theorem dX4_giveLayer_27 : decode cX4_giveLayer 27 = .ok (.invokevirtual 56, 3) := by decide +kernel
theorem dX4_giveLayer_36 : decode cX4_giveLayer 36 = .ok (.return_, 1) := by decide +kernel
theorem dX4_give_20 : decode cX4_give 20 = .ok (.return_, 1) := by decide +kernel
theorem dX4_leastWish_10 : decode cX4_leastWish 10 = .ok (.if_icmp .ge 35, 3) := by decide +kernel
theorem dX4_leastWish_15 : decode cX4_leastWish 15 = .ok (.invokevirtual 35, 3) := by decide +kernel
theorem dX4_leastWish_18 : decode cX4_leastWish 18 = .ok (.ifCond .eq 21, 3) := by decide +kernel
theorem dX4_leastWish_35 : decode cX4_leastWish 35 = .ok (.invokestatic 50, 3) := by decide +kernel
theorem dX4_leastWish_46 : decode cX4_leastWish 46 = .ok (.ireturn, 1) := by decide +kernel
theorem dX4_giveParts_13 : decode cX4_giveParts 13 = .ok (.if_icmp .ge 71, 3) := by decide +kernel
theorem dX4_giveParts_19 : decode cX4_giveParts 19 = .ok (.invokevirtual 35, 3) := by decide +kernel
theorem dX4_giveParts_22 : decode cX4_giveParts 22 = .ok (.ifCond .eq 56, 3) := by decide +kernel
theorem dX4_giveParts_71 : decode cX4_giveParts 71 = .ok (.invokestatic 74, 3) := by decide +kernel
theorem dX4_giveParts_75 : decode cX4_giveParts 75 = .ok (.invokevirtual 56, 3) := by decide +kernel
theorem dX4_giveParts_84 : decode cX4_giveParts 84 = .ok (.return_, 1) := by decide +kernel
theorem dJ9_min_f86c9_3 : decode cJ9_min_f86c9 3 = .ok (.ifCond .gt 7, 3) := by decide +kernel
theorem dJ9_min_f86c9_11 : decode cJ9_min_f86c9 11 = .ok (.lreturn, 1) := by decide +kernel
theorem dX4_giveRemainders_5 : decode cX4_giveRemainders 5 = .ok (.if_icmp .ge 42, 3) := by decide +kernel
theorem dX4_giveRemainders_12 : decode cX4_giveRemainders 12 = .ok (.ifCond .le 35, 3) := by decide +kernel
theorem dX4_giveRemainders_16 : decode cX4_giveRemainders 16 = .ok (.invokevirtual 77, 3) := by decide +kernel
theorem dX4_giveRemainders_22 : decode cX4_giveRemainders 22 = .ok (.if_icmp .ne 4, 3) := by decide +kernel
theorem dX4_giveRemainders_25 : decode cX4_giveRemainders 25 = .ok (.return_, 1) := by decide +kernel
theorem dX4_giveRemainders_29 : decode cX4_giveRemainders 29 = .ok (.invokevirtual 56, 3) := by decide +kernel
theorem dX4_giveRemainders_47 : decode cX4_giveRemainders 47 = .ok (.return_, 1) := by decide +kernel
theorem dX4_greatestRemainder_13 : decode cX4_greatestRemainder 13 = .ok (.if_icmp .ge 41, 3) := by decide +kernel
theorem dX4_greatestRemainder_19 : decode cX4_greatestRemainder 19 = .ok (.invokevirtual 35, 3) := by decide +kernel
theorem dX4_greatestRemainder_22 : decode cX4_greatestRemainder 22 = .ok (.ifCond .eq 26, 3) := by decide +kernel
theorem dX4_greatestRemainder_34 : decode cX4_greatestRemainder 34 = .ok (.ifCond .le 14, 3) := by decide +kernel
theorem dX4_greatestRemainder_55 : decode cX4_greatestRemainder 55 = .ok (.ireturn, 1) := by decide +kernel
theorem dX6_grant_1 : decode cX6_grant 1 = .ok (.ifCond .le 28, 3) := by decide +kernel
theorem dX6_grant_11 : decode cX6_grant 11 = .ok (.invokevirtual 205, 3) := by decide +kernel
theorem dX6_grant_26 : decode cX6_grant 26 = .ok (.invokevirtual 145, 3) := by decide +kernel
theorem dX6_grant_30 : decode cX6_grant 30 = .ok (.ireturn, 1) := by decide +kernel
theorem dX2_addUnits_5 : decode cX2_addUnits 5 = .ok (.invokestatic 56, 3) := by decide +kernel
theorem dX2_addUnits_11 : decode cX2_addUnits 11 = .ok (.if_icmp .eq 13, 3) := by decide +kernel
theorem dX2_addUnits_24 : decode cX2_addUnits 24 = .ok (.return_, 1) := by decide +kernel
theorem dL_deliver_4 : decode cL_deliver 4 = .ok (.invokevirtual 47, 3) := by decide +kernel
theorem dL_deliver_14 : decode cL_deliver 14 = .ok (.ireturn, 1) := by decide +kernel
theorem dL_deliver_16 : decode cL_deliver 16 = .ok (.ireturn, 1) := by decide +kernel
theorem dX6_deliver_2 : decode cX6_deliver 2 = .ok (.invokevirtual 208, 3) := by decide +kernel
theorem dX6_deliver_7 : decode cX6_deliver 7 = .ok (.invokevirtual 211, 3) := by decide +kernel
theorem dX6_deliver_10 : decode cX6_deliver 10 = .ok (.ireturn, 1) := by decide +kernel
theorem dX6_mustHaveLetter_1 : decode cX6_mustHaveLetter 1 = .ok (.ifCond .lt 14, 3) := by decide +kernel
theorem dX6_mustHaveLetter_12 : decode cX6_mustHaveLetter 12 = .ok (.if_icmp .lt 11, 3) := by decide +kernel
theorem dX6_mustHaveLetter_15 : decode cX6_mustHaveLetter 15 = .ok (.new 292, 3) := by decide +kernel
theorem dX6_mustHaveLetter_19 : decode cX6_mustHaveLetter 19 = .ok (.invokespecial 294, 3) := by decide +kernel
theorem dX6_mustHaveLetter_22 : decode cX6_mustHaveLetter 22 = .ok (.athrow, 1) := by decide +kernel
theorem dX6_mustHaveLetter_23 : decode cX6_mustHaveLetter 23 = .ok (.return_, 1) := by decide +kernel
theorem dX6_bring_9 : decode cX6_bring 9 = .ok (.invokevirtual 217, 3) := by decide +kernel
theorem dX6_bring_17 : decode cX6_bring 17 = .ok (.invokevirtual 221, 3) := by decide +kernel
theorem dX6_bring_38 : decode cX6_bring 38 = .ok (.tableswitch 61 2 4 #[26, 32, 45], 26) := by decide +kernel
theorem dX6_bring_66 : decode cX6_bring 66 = .ok (.invokevirtual 224, 3) := by decide +kernel
theorem dX6_bring_69 : decode cX6_bring 69 = .ok (.ireturn, 1) := by decide +kernel
theorem dX6_bring_79 : decode cX6_bring 79 = .ok (.invokevirtual 228, 3) := by decide +kernel
theorem dX6_bring_82 : decode cX6_bring 82 = .ok (.ireturn, 1) := by decide +kernel
theorem dX6_bring_95 : decode cX6_bring 95 = .ok (.invokevirtual 228, 3) := by decide +kernel
theorem dX6_bring_98 : decode cX6_bring 98 = .ok (.ireturn, 1) := by decide +kernel
theorem dX6_bring_101 : decode cX6_bring 101 = .ok (.invokevirtual 232, 3) := by decide +kernel
theorem dX6_bring_104 : decode cX6_bring 104 = .ok (.ireturn, 1) := by decide +kernel
theorem dX3_copyTo_6 : decode cX3_copyTo 6 = .ok (.invokevirtual 22, 3) := by decide +kernel
theorem dX3_copyTo_13 : decode cX3_copyTo 13 = .ok (.invokestatic 26, 3) := by decide +kernel
theorem dX3_copyTo_16 : decode cX3_copyTo 16 = .ok (.return_, 1) := by decide +kernel
theorem dX3_start_13 : decode cX3_start 13 = .ok (.ireturn, 1) := by decide +kernel
theorem dX3_remove_1 : decode cX3_remove 1 = .ok (.ifCond .ne 20, 3) := by decide +kernel
theorem dX3_remove_30 : decode cX3_remove 30 = .ok (.if_icmp .ge 34, 3) := by decide +kernel
theorem dX3_remove_41 : decode cX3_remove 41 = .ok (.invokevirtual 22, 3) := by decide +kernel
theorem dX3_remove_50 : decode cX3_remove 50 = .ok (.invokevirtual 22, 3) := by decide +kernel
theorem dX3_remove_55 : decode cX3_remove 55 = .ok (.invokestatic 26, 3) := by decide +kernel
theorem dX3_remove_74 : decode cX3_remove 74 = .ok (.return_, 1) := by decide +kernel
theorem dX6_comeToGate_4 : decode cX6_comeToGate 4 = .ok (.ifCond .ne 5, 3) := by decide +kernel
theorem dX6_comeToGate_8 : decode cX6_comeToGate 8 = .ok (.ireturn, 1) := by decide +kernel
theorem dX6_comeToGate_19 : decode cX6_comeToGate 19 = .ok (.invokevirtual 238, 3) := by decide +kernel
theorem dX6_comeToGate_24 : decode cX6_comeToGate 24 = .ok (.ifCond .eq 19, 3) := by decide +kernel
theorem dX6_comeToGate_40 : decode cX6_comeToGate 40 = .ok (.invokevirtual 154, 3) := by decide +kernel
theorem dX6_comeToGate_52 : decode cX6_comeToGate 52 = .ok (.invokevirtual 241, 3) := by decide +kernel
theorem dX6_comeToGate_56 : decode cX6_comeToGate 56 = .ok (.ifCond .eq 7, 3) := by decide +kernel
theorem dX6_comeToGate_64 : decode cX6_comeToGate 64 = .ok (.ireturn, 1) := by decide +kernel
theorem dX5_take_7 : decode cX5_take 7 = .ok (.if_icmp .eq 5, 3) := by decide +kernel
theorem dX5_take_11 : decode cX5_take 11 = .ok (.ireturn, 1) := by decide +kernel
theorem dX5_take_18 : decode cX5_take 18 = .ok (.ireturn, 1) := by decide +kernel
theorem dX5_sendReceipt_13 : decode cX5_sendReceipt 13 = .ok (.invokevirtual 41, 3) := by decide +kernel
theorem dX5_sendReceipt_16 : decode cX5_sendReceipt 16 = .ok (.return_, 1) := by decide +kernel
theorem dX6_comeAsReceipt_1 : decode cX6_comeAsReceipt 1 = .ok (.ifCond .ne 5, 3) := by decide +kernel
theorem dX6_comeAsReceipt_5 : decode cX6_comeAsReceipt 5 = .ok (.ireturn, 1) := by decide +kernel
theorem dX6_comeAsReceipt_13 : decode cX6_comeAsReceipt 13 = .ok (.invokevirtual 235, 3) := by decide +kernel
theorem dX6_comeAsReceipt_17 : decode cX6_comeAsReceipt 17 = .ok (.ireturn, 1) := by decide +kernel
theorem dX5_markReceived_6 : decode cX5_markReceived 6 = .ok (.invokestatic 47, 3) := by decide +kernel
theorem dX5_markReceived_12 : decode cX5_markReceived 12 = .ok (.return_, 1) := by decide +kernel
theorem dX6_comeToDesk_7 : decode cX6_comeToDesk 7 = .ok (.ifCond .ne 5, 3) := by decide +kernel
theorem dX6_comeToDesk_11 : decode cX6_comeToDesk 11 = .ok (.ireturn, 1) := by decide +kernel
theorem dX6_comeToDesk_22 : decode cX6_comeToDesk 22 = .ok (.invokevirtual 238, 3) := by decide +kernel
theorem dX6_comeToDesk_27 : decode cX6_comeToDesk 27 = .ok (.ifCond .eq 20, 3) := by decide +kernel
theorem dX6_comeToDesk_36 : decode cX6_comeToDesk 36 = .ok (.ifCond .ne 11, 3) := by decide +kernel
theorem dX6_comeToDesk_41 : decode cX6_comeToDesk 41 = .ok (.invokevirtual 245, 3) := by decide +kernel
theorem dX6_comeToDesk_48 : decode cX6_comeToDesk 48 = .ok (.ifCond .eq 22, 3) := by decide +kernel
theorem dX6_comeToDesk_67 : decode cX6_comeToDesk 67 = .ok (.invokevirtual 205, 3) := by decide +kernel
theorem dX6_comeToDesk_79 : decode cX6_comeToDesk 79 = .ok (.invokevirtual 241, 3) := by decide +kernel
theorem dX6_comeToDesk_83 : decode cX6_comeToDesk 83 = .ok (.ifCond .eq 7, 3) := by decide +kernel
theorem dX6_comeToDesk_91 : decode cX6_comeToDesk 91 = .ok (.ireturn, 1) := by decide +kernel
theorem dX6_hearPlea_15 : decode cX6_hearPlea 15 = .ok (.invokestatic 166, 3) := by decide +kernel
theorem dX6_hearPlea_21 : decode cX6_hearPlea 21 = .ok (.if_icmp .ne 4, 3) := by decide +kernel
theorem dX6_hearPlea_24 : decode cX6_hearPlea 24 = .ok (.return_, 1) := by decide +kernel
theorem dX6_hearPlea_32 : decode cX6_hearPlea 32 = .ok (.ifCond .eq 53, 3) := by decide +kernel
theorem dX6_hearPlea_89 : decode cX6_hearPlea 89 = .ok (.invokevirtual 177, 3) := by decide +kernel
theorem dX6_hearPlea_92 : decode cX6_hearPlea 92 = .ok (.ifCond .ne 28, 3) := by decide +kernel
theorem dX6_hearPlea_113 : decode cX6_hearPlea 113 = .ok (.invokestatic 249, 3) := by decide +kernel
theorem dX6_hearPlea_116 : decode cX6_hearPlea 116 = .ok (.invokevirtual 201, 3) := by decide +kernel
theorem dX6_hearPlea_120 : decode cX6_hearPlea 120 = .ok (.return_, 1) := by decide +kernel
theorem dL_deliverAll_4 : decode cL_deliverAll 4 = .ok (.invokevirtual 51, 3) := by decide +kernel
theorem dL_deliverAll_14 : decode cL_deliverAll 14 = .ok (.ireturn, 1) := by decide +kernel
theorem dL_deliverAll_16 : decode cL_deliverAll 16 = .ok (.ireturn, 1) := by decide +kernel
theorem dX6_deliverAll_1 : decode cX6_deliverAll 1 = .ok (.ifCond .lt 10, 3) := by decide +kernel
theorem dX6_deliverAll_8 : decode cX6_deliverAll 8 = .ok (.if_icmp .le 11, 3) := by decide +kernel
theorem dX6_deliverAll_11 : decode cX6_deliverAll 11 = .ok (.new 58, 3) := by decide +kernel
theorem dX6_deliverAll_15 : decode cX6_deliverAll 15 = .ok (.invokespecial 60, 3) := by decide +kernel
theorem dX6_deliverAll_18 : decode cX6_deliverAll 18 = .ok (.athrow, 1) := by decide +kernel
theorem dX6_deliverAll_23 : decode cX6_deliverAll 23 = .ok (.if_icmp .ge 25, 3) := by decide +kernel
theorem dX6_deliverAll_33 : decode cX6_deliverAll 33 = .ok (.ifCond .le 15, 3) := by decide +kernel
theorem dX6_deliverAll_38 : decode cX6_deliverAll 38 = .ok (.invokevirtual 211, 3) := by decide +kernel
theorem dX6_deliverAll_49 : decode cX6_deliverAll 49 = .ok (.ireturn, 1) := by decide +kernel
theorem dL_lose_2 : decode cL_lose 2 = .ok (.invokevirtual 54, 3) := by decide +kernel
theorem dL_lose_10 : decode cL_lose 10 = .ok (.ireturn, 1) := by decide +kernel
theorem dL_lose_12 : decode cL_lose 12 = .ok (.ireturn, 1) := by decide +kernel
theorem dX6_lose_2 : decode cX6_lose 2 = .ok (.invokevirtual 208, 3) := by decide +kernel
theorem dX6_lose_10 : decode cX6_lose 10 = .ok (.invokevirtual 221, 3) := by decide +kernel
theorem dX6_lose_13 : decode cX6_lose 13 = .ok (.return_, 1) := by decide +kernel
theorem dL_twice_2 : decode cL_twice 2 = .ok (.invokevirtual 57, 3) := by decide +kernel
theorem dL_twice_10 : decode cL_twice 10 = .ok (.ireturn, 1) := by decide +kernel
theorem dL_twice_13 : decode cL_twice 13 = .ok (.ireturn, 1) := by decide +kernel
theorem dL_twice_15 : decode cL_twice 15 = .ok (.ireturn, 1) := by decide +kernel
theorem dX6_twice_2 : decode cX6_twice 2 = .ok (.invokevirtual 208, 3) := by decide +kernel
theorem dX6_twice_9 : decode cX6_twice 9 = .ok (.invokevirtual 254, 3) := by decide +kernel
theorem dX6_twice_12 : decode cX6_twice 12 = .ok (.ifCond .eq 11, 3) := by decide +kernel
theorem dX6_twice_15 : decode cX6_twice 15 = .ok (.new 58, 3) := by decide +kernel
theorem dX6_twice_19 : decode cX6_twice 19 = .ok (.invokespecial 60, 3) := by decide +kernel
theorem dX6_twice_22 : decode cX6_twice 22 = .ok (.athrow, 1) := by decide +kernel
theorem dX6_twice_32 : decode cX6_twice 32 = .ok (.invokevirtual 217, 3) := by decide +kernel
theorem dX6_twice_75 : decode cX6_twice 75 = .ok (.invokevirtual 257, 3) := by decide +kernel
theorem dX6_twice_78 : decode cX6_twice 78 = .ok (.return_, 1) := by decide +kernel
theorem dX3_isFull_7 : decode cX3_isFull 7 = .ok (.if_icmp .lt 7, 3) := by decide +kernel
theorem dX3_isFull_15 : decode cX3_isFull 15 = .ok (.ireturn, 1) := by decide +kernel
theorem dL_resend_4 : decode cL_resend 4 = .ok (.invokevirtual 60, 3) := by decide +kernel
theorem dL_resend_14 : decode cL_resend 14 = .ok (.ireturn, 1) := by decide +kernel
theorem dL_resend_16 : decode cL_resend 16 = .ok (.ireturn, 1) := by decide +kernel
theorem dX6_resend_2 : decode cX6_resend 2 = .ok (.invokevirtual 102, 3) := by decide +kernel
theorem dX6_resend_14 : decode cX6_resend 14 = .ok (.invokevirtual 261, 3) := by decide +kernel
theorem dX6_resend_27 : decode cX6_resend 27 = .ok (.invokevirtual 261, 3) := by decide +kernel
theorem dX6_resend_31 : decode cX6_resend 31 = .ok (.ireturn, 1) := by decide +kernel
theorem dX5_sendAnew_14 : decode cX5_sendAnew 14 = .ok (.if_icmp .gt 64, 3) := by decide +kernel
theorem dX5_sendAnew_25 : decode cX5_sendAnew 25 = .ok (.invokestatic 35, 3) := by decide +kernel
theorem dX5_sendAnew_69 : decode cX5_sendAnew 69 = .ok (.invokevirtual 41, 3) := by decide +kernel
theorem dX5_sendAnew_79 : decode cX5_sendAnew 79 = .ok (.ireturn, 1) := by decide +kernel
theorem dL_letter_5 : decode cL_letter 5 = .ok (.invokevirtual 63, 3) := by decide +kernel
theorem dL_letter_16 : decode cL_letter 16 = .ok (.ireturn, 1) := by decide +kernel
theorem dL_letter_20 : decode cL_letter 20 = .ok (.ireturn, 1) := by decide +kernel
theorem dL_letter_22 : decode cL_letter 22 = .ok (.ireturn, 1) := by decide +kernel
theorem dX6_letter_2 : decode cX6_letter 2 = .ok (.invokevirtual 208, 3) := by decide +kernel
theorem dX6_letter_6 : decode cX6_letter 6 = .ok (.ifCond .lt 9, 3) := by decide +kernel
theorem dX6_letter_12 : decode cX6_letter 12 = .ok (.if_icmp .lt 11, 3) := by decide +kernel
theorem dX6_letter_15 : decode cX6_letter 15 = .ok (.new 58, 3) := by decide +kernel
theorem dX6_letter_19 : decode cX6_letter 19 = .ok (.invokespecial 60, 3) := by decide +kernel
theorem dX6_letter_22 : decode cX6_letter 22 = .ok (.athrow, 1) := by decide +kernel
theorem dX6_letter_29 : decode cX6_letter 29 = .ok (.invokevirtual 265, 3) := by decide +kernel
theorem dX6_letter_32 : decode cX6_letter 32 = .ok (.ireturn, 1) := by decide +kernel
theorem dX3_cell_6 : decode cX3_cell 6 = .ok (.invokevirtual 22, 3) := by decide +kernel
theorem dX3_cell_12 : decode cX3_cell 12 = .ok (.ireturn, 1) := by decide +kernel
theorem dL_crash_2 : decode cL_crash 2 = .ok (.invokevirtual 66, 3) := by decide +kernel
theorem dL_crash_10 : decode cL_crash 10 = .ok (.ireturn, 1) := by decide +kernel
theorem dL_crash_13 : decode cL_crash 13 = .ok (.ireturn, 1) := by decide +kernel
theorem dL_crash_15 : decode cL_crash 15 = .ok (.ireturn, 1) := by decide +kernel
theorem dX6_crash_2 : decode cX6_crash 2 = .ok (.invokevirtual 102, 3) := by decide +kernel
theorem dX6_crash_10 : decode cX6_crash 10 = .ok (.invokestatic 116, 3) := by decide +kernel
theorem dX6_crash_18 : decode cX6_crash 18 = .ok (.return_, 1) := by decide +kernel
theorem dL_restart_4 : decode cL_restart 4 = .ok (.invokevirtual 69, 3) := by decide +kernel
theorem dL_restart_7 : decode cL_restart 7 = .ok (.ifCond .eq 7, 3) := by decide +kernel
theorem dL_restart_21 : decode cL_restart 21 = .ok (.ireturn, 1) := by decide +kernel
theorem dL_restart_23 : decode cL_restart 23 = .ok (.ireturn, 1) := by decide +kernel
theorem dX6_restart_2 : decode cX6_restart 2 = .ok (.invokevirtual 102, 3) := by decide +kernel
theorem dX6_restart_10 : decode cX6_restart 10 = .ok (.ifCond .eq 5, 3) := by decide +kernel
theorem dX6_restart_14 : decode cX6_restart 14 = .ok (.ireturn, 1) := by decide +kernel
theorem dX6_restart_16 : decode cX6_restart 16 = .ok (.invokevirtual 268, 3) := by decide +kernel
theorem dX6_restart_20 : decode cX6_restart 20 = .ok (.ireturn, 1) := by decide +kernel
theorem dX1_comeUp_16 : decode cX1_comeUp 16 = .ok (.invokestatic 82, 3) := by decide +kernel
theorem dX1_comeUp_19 : decode cX1_comeUp 19 = .ok (.return_, 1) := by decide +kernel
theorem dL_about_5 : decode cL_about 5 = .ok (.invokevirtual 73, 3) := by decide +kernel
theorem dL_about_15 : decode cL_about 15 = .ok (.ireturn, 1) := by decide +kernel
theorem dL_about_19 : decode cL_about 19 = .ok (.ireturn, 1) := by decide +kernel
theorem dL_about_21 : decode cL_about 21 = .ok (.ireturn, 1) := by decide +kernel
theorem dX6_about_2 : decode cX6_about 2 = .ok (.invokevirtual 102, 3) := by decide +kernel
theorem dX6_about_7 : decode cX6_about 7 = .ok (.tableswitch 49 0 2 #[25, 30, 36], 25) := by decide +kernel
theorem dX6_about_36 : decode cX6_about 36 = .ok (.lreturn, 1) := by decide +kernel
theorem dX6_about_42 : decode cX6_about 42 = .ok (.lreturn, 1) := by decide +kernel
theorem dX6_about_47 : decode cX6_about 47 = .ok (.ifCond .eq 7, 3) := by decide +kernel
theorem dX6_about_55 : decode cX6_about 55 = .ok (.lreturn, 1) := by decide +kernel
theorem dX6_about_56 : decode cX6_about 56 = .ok (.new 58, 3) := by decide +kernel
theorem dX6_about_60 : decode cX6_about 60 = .ok (.invokespecial 60, 3) := by decide +kernel
theorem dX6_about_63 : decode cX6_about 63 = .ok (.athrow, 1) := by decide +kernel
theorem dL_has_7 : decode cL_has 7 = .ok (.invokevirtual 77, 3) := by decide +kernel
theorem dL_has_18 : decode cL_has 18 = .ok (.ireturn, 1) := by decide +kernel
theorem dL_has_22 : decode cL_has 22 = .ok (.ireturn, 1) := by decide +kernel
theorem dL_has_24 : decode cL_has 24 = .ok (.ireturn, 1) := by decide +kernel
theorem dX6_has_2 : decode cX6_has 2 = .ok (.invokevirtual 102, 3) := by decide +kernel
theorem dX6_has_8 : decode cX6_has 8 = .ok (.ifCond .lt 8, 3) := by decide +kernel
theorem dX6_has_13 : decode cX6_has 13 = .ok (.if_icmp .le 11, 3) := by decide +kernel
theorem dX6_has_16 : decode cX6_has 16 = .ok (.new 58, 3) := by decide +kernel
theorem dX6_has_20 : decode cX6_has 20 = .ok (.invokespecial 60, 3) := by decide +kernel
theorem dX6_has_23 : decode cX6_has 23 = .ok (.athrow, 1) := by decide +kernel
theorem dX6_has_30 : decode cX6_has 30 = .ok (.invokestatic 166, 3) := by decide +kernel
theorem dX6_has_38 : decode cX6_has 38 = .ok (.if_icmp .ne 5, 3) := by decide +kernel
theorem dX6_has_42 : decode cX6_has 42 = .ok (.ireturn, 1) := by decide +kernel
theorem dX6_has_44 : decode cX6_has 44 = .ok (.ifCond .ne 12, 3) := by decide +kernel
theorem dX6_has_55 : decode cX6_has 55 = .ok (.ireturn, 1) := by decide +kernel
theorem dX6_has_58 : decode cX6_has 58 = .ok (.if_icmp .ne 14, 3) := by decide +kernel
theorem dX6_has_80 : decode cX6_has 80 = .ok (.ireturn, 1) := by decide +kernel
theorem dL_busiest_4 : decode cL_busiest 4 = .ok (.invokevirtual 81, 3) := by decide +kernel
theorem dL_busiest_14 : decode cL_busiest 14 = .ok (.ireturn, 1) := by decide +kernel
theorem dL_busiest_16 : decode cL_busiest 16 = .ok (.ireturn, 1) := by decide +kernel
theorem dX6_busiest_2 : decode cX6_busiest 2 = .ok (.if_icmp .lt 9, 3) := by decide +kernel
theorem dX6_busiest_8 : decode cX6_busiest 8 = .ok (.if_icmp .le 11, 3) := by decide +kernel
theorem dX6_busiest_11 : decode cX6_busiest 11 = .ok (.new 58, 3) := by decide +kernel
theorem dX6_busiest_15 : decode cX6_busiest 15 = .ok (.invokespecial 60, 3) := by decide +kernel
theorem dX6_busiest_18 : decode cX6_busiest 18 = .ok (.athrow, 1) := by decide +kernel
theorem dX6_busiest_24 : decode cX6_busiest 24 = .ok (.invokevirtual 283, 3) := by decide +kernel
theorem dX6_busiest_27 : decode cX6_busiest 27 = .ok (.ireturn, 1) := by decide +kernel
theorem dX0_mostWithin_16 : decode cX0_mostWithin 16 = .ok (.if_icmp .ge 85, 3) := by decide +kernel
theorem dX0_mostWithin_27 : decode cX0_mostWithin 27 = .ok (.invokevirtual 27, 3) := by decide +kernel
theorem dX0_mostWithin_37 : decode cX0_mostWithin 37 = .ok (.if_icmp .ge 52, 3) := by decide +kernel
theorem dX0_mostWithin_47 : decode cX0_mostWithin 47 = .ok (.invokevirtual 27, 3) := by decide +kernel
theorem dX0_mostWithin_58 : decode cX0_mostWithin 58 = .ok (.invokevirtual 27, 3) := by decide +kernel
theorem dX0_mostWithin_66 : decode cX0_mostWithin 66 = .ok (.ifCond .lt 23, 3) := by decide +kernel
theorem dX0_mostWithin_77 : decode cX0_mostWithin 77 = .ok (.invokevirtual 27, 3) := by decide +kernel
theorem dX0_mostWithin_91 : decode cX0_mostWithin 91 = .ok (.invokestatic 45, 3) := by decide +kernel
theorem dX0_mostWithin_102 : decode cX0_mostWithin 102 = .ok (.ireturn, 1) := by decide +kernel
theorem dL_count_4 : decode cL_count 4 = .ok (.invokevirtual 84, 3) := by decide +kernel
theorem dL_count_14 : decode cL_count 14 = .ok (.ireturn, 1) := by decide +kernel
theorem dL_count_16 : decode cL_count 16 = .ok (.ireturn, 1) := by decide +kernel
theorem dX6_count_1 : decode cX6_count 1 = .ok (.tableswitch 62 0 3 #[31, 39, 49, 54], 31) := by decide +kernel
theorem dX6_count_39 : decode cX6_count 39 = .ok (.ireturn, 1) := by decide +kernel
theorem dX6_count_49 : decode cX6_count 49 = .ok (.ireturn, 1) := by decide +kernel
theorem dX6_count_54 : decode cX6_count 54 = .ok (.ireturn, 1) := by decide +kernel
theorem dX6_count_59 : decode cX6_count 59 = .ok (.invokevirtual 288, 3) := by decide +kernel
theorem dX6_count_62 : decode cX6_count 62 = .ok (.ireturn, 1) := by decide +kernel
theorem dX6_count_63 : decode cX6_count 63 = .ok (.new 58, 3) := by decide +kernel
theorem dX6_count_67 : decode cX6_count 67 = .ok (.invokespecial 60, 3) := by decide +kernel
theorem dX6_count_70 : decode cX6_count 70 = .ok (.athrow, 1) := by decide +kernel
theorem dX2_waitingPleas_6 : decode cX2_waitingPleas 6 = .ok (.if_icmp .ge 42, 3) := by decide +kernel
theorem dX2_waitingPleas_14 : decode cX2_waitingPleas 14 = .ok (.if_icmp .ge 28, 3) := by decide +kernel
theorem dX2_waitingPleas_26 : decode cX2_waitingPleas 26 = .ok (.ifCond .le 7, 3) := by decide +kernel
theorem dX2_waitingPleas_49 : decode cX2_waitingPleas 49 = .ok (.ireturn, 1) := by decide +kernel
theorem dX7_init_1 : decode cX7_init 1 = .ok (.invokespecial 1, 3) := by decide +kernel
theorem dX7_init_6 : decode cX7_init 6 = .ok (.newarray .int, 2) := by decide +kernel
theorem dX7_init_14 : decode cX7_init 14 = .ok (.newarray .int, 2) := by decide +kernel
theorem dX7_init_22 : decode cX7_init 22 = .ok (.newarray .int, 2) := by decide +kernel
theorem dX7_init_30 : decode cX7_init 30 = .ok (.newarray .int, 2) := by decide +kernel
theorem dX7_init_38 : decode cX7_init 38 = .ok (.newarray .long, 2) := by decide +kernel
theorem dX7_init_46 : decode cX7_init 46 = .ok (.newarray .int, 2) := by decide +kernel
theorem dX7_init_54 : decode cX7_init 54 = .ok (.newarray .boolean, 2) := by decide +kernel
theorem dX7_init_62 : decode cX7_init 62 = .ok (.newarray .int, 2) := by decide +kernel
theorem dX7_init_70 : decode cX7_init 70 = .ok (.newarray .int, 2) := by decide +kernel
theorem dX7_init_78 : decode cX7_init 78 = .ok (.newarray .int, 2) := by decide +kernel
theorem dX7_init_87 : decode cX7_init 87 = .ok (.newarray .int, 2) := by decide +kernel
theorem dX7_init_95 : decode cX7_init 95 = .ok (.newarray .int, 2) := by decide +kernel
theorem dX7_init_103 : decode cX7_init 103 = .ok (.newarray .int, 2) := by decide +kernel
theorem dX7_init_111 : decode cX7_init 111 = .ok (.newarray .int, 2) := by decide +kernel
theorem dX7_init_120 : decode cX7_init 120 = .ok (.newarray .int, 2) := by decide +kernel
theorem dX7_init_129 : decode cX7_init 129 = .ok (.newarray .int, 2) := by decide +kernel
theorem dX7_init_138 : decode cX7_init 138 = .ok (.newarray .long, 2) := by decide +kernel
theorem dX7_init_146 : decode cX7_init 146 = .ok (.newarray .int, 2) := by decide +kernel
theorem dX7_init_154 : decode cX7_init 154 = .ok (.newarray .int, 2) := by decide +kernel
theorem dX7_init_162 : decode cX7_init 162 = .ok (.newarray .long, 2) := by decide +kernel
theorem dX7_init_170 : decode cX7_init 170 = .ok (.newarray .boolean, 2) := by decide +kernel
theorem dX7_init_182 : decode cX7_init 182 = .ok (.invokevirtual 75, 3) := by decide +kernel
theorem dX7_init_185 : decode cX7_init 185 = .ok (.return_, 1) := by decide +kernel
theorem dX7_begin_58 : decode cX7_begin 58 = .ok (.ifCond .le 7, 3) := by decide +kernel
theorem dX7_begin_88 : decode cX7_begin 88 = .ok (.if_icmp .ge 49, 3) := by decide +kernel
theorem dX7_begin_144 : decode cX7_begin 144 = .ok (.if_icmp .ge 47, 3) := by decide +kernel
theorem dX7_begin_198 : decode cX7_begin 198 = .ok (.if_icmp .ge 33, 3) := by decide +kernel
theorem dX7_begin_244 : decode cX7_begin 244 = .ok (.if_icmp .ge 17, 3) := by decide +kernel
theorem dX7_begin_266 : decode cX7_begin 266 = .ok (.return_, 1) := by decide +kernel
theorem dX7_thrown_4 : decode cX7_thrown 4 = .ok (.ireturn, 1) := by decide +kernel
theorem dX7_setup_3 : decode cX7_setup 3 = .ok (.if_icmp .lt 54, 3) := by decide +kernel
theorem dX7_setup_9 : decode cX7_setup 9 = .ok (.if_icmp .gt 48, 3) := by decide +kernel
theorem dX7_setup_14 : decode cX7_setup 14 = .ok (.if_icmp .lt 43, 3) := by decide +kernel
theorem dX7_setup_21 : decode cX7_setup 21 = .ok (.if_icmp .gt 36, 3) := by decide +kernel
theorem dX7_setup_25 : decode cX7_setup 25 = .ok (.ifCond .lt 32, 3) := by decide +kernel
theorem dX7_setup_37 : decode cX7_setup 37 = .ok (.ifCond .ge 20, 3) := by decide +kernel
theorem dX7_setup_43 : decode cX7_setup 43 = .ok (.if_icmp .lt 14, 3) := by decide +kernel
theorem dX7_setup_50 : decode cX7_setup 50 = .ok (.if_icmp .gt 7, 3) := by decide +kernel
theorem dX7_setup_65 : decode cX7_setup 65 = .ok (.ifCond .ne 12, 3) := by decide +kernel
theorem dX7_setup_74 : decode cX7_setup 74 = .ok (.invokevirtual 75, 3) := by decide +kernel
theorem dX7_setup_77 : decode cX7_setup 77 = .ok (.return_, 1) := by decide +kernel
theorem dX7_pass_2 : decode cX7_pass 2 = .ok (.ifCond .lt 13, 3) := by decide +kernel
theorem dX7_pass_8 : decode cX7_pass 8 = .ok (.if_icmp .gt 7, 3) := by decide +kernel
theorem dX7_pass_23 : decode cX7_pass 23 = .ok (.ifCond .le 4, 3) := by decide +kernel
theorem dX7_pass_26 : decode cX7_pass 26 = .ok (.return_, 1) := by decide +kernel
theorem dX7_pass_68 : decode cX7_pass 68 = .ok (.invokestatic 120, 3) := by decide +kernel
theorem dX7_pass_80 : decode cX7_pass 80 = .ok (.if_icmp .ge 41, 3) := by decide +kernel
theorem dX7_pass_93 : decode cX7_pass 93 = .ok (.invokestatic 120, 3) := by decide +kernel
theorem dX7_pass_106 : decode cX7_pass 106 = .ok (.invokestatic 120, 3) := by decide +kernel
theorem dX7_pass_112 : decode cX7_pass 112 = .ok (.invokevirtual 124, 3) := by decide +kernel
theorem dX7_pass_126 : decode cX7_pass 126 = .ok (.return_, 1) := by decide +kernel
theorem dX7_move_7 : decode cX7_move 7 = .ok (.ifCond .ge 46, 3) := by decide +kernel
theorem dX7_move_16 : decode cX7_move 16 = .ok (.ifCond .ge 37, 3) := by decide +kernel
theorem dX7_move_53 : decode cX7_move 53 = .ok (.return_, 1) := by decide +kernel
theorem dX7_tick_26 : decode cX7_tick 26 = .ok (.ifCond .le 7, 3) := by decide +kernel
theorem dX7_tick_77 : decode cX7_tick 77 = .ok (.invokestatic 120, 3) := by decide +kernel
theorem dX7_tick_90 : decode cX7_tick 90 = .ok (.invokestatic 120, 3) := by decide +kernel
theorem dX7_tick_103 : decode cX7_tick 103 = .ok (.invokestatic 120, 3) := by decide +kernel
theorem dX7_tick_114 : decode cX7_tick 114 = .ok (.return_, 1) := by decide +kernel
theorem dX7_error_3 : decode cX7_error 3 = .ok (.invokevirtual 128, 3) := by decide +kernel
theorem dX7_error_6 : decode cX7_error 6 = .ok (.ifCond .ne 7, 3) := by decide +kernel
theorem dX7_error_19 : decode cX7_error 19 = .ok (.if_icmp .lt 11, 3) := by decide +kernel
theorem dX7_error_27 : decode cX7_error 27 = .ok (.if_icmp .le 7, 3) := by decide +kernel
theorem dX7_error_42 : decode cX7_error 42 = .ok (.ifCond .ne 15, 3) := by decide +kernel
theorem dX7_error_54 : decode cX7_error 54 = .ok (.invokevirtual 124, 3) := by decide +kernel
theorem dX7_error_57 : decode cX7_error 57 = .ok (.return_, 1) := by decide +kernel
theorem dX7_isGate_1 : decode cX7_isGate 1 = .ok (.ifCond .lt 15, 3) := by decide +kernel
theorem dX7_isGate_9 : decode cX7_isGate 9 = .ok (.if_icmp .ge 7, 3) := by decide +kernel
theorem dX7_isGate_17 : decode cX7_isGate 17 = .ok (.ireturn, 1) := by decide +kernel
theorem dX7_rule_2 : decode cX7_rule 2 = .ok (.ifCond .lt 12, 3) := by decide +kernel
theorem dX7_rule_7 : decode cX7_rule 7 = .ok (.if_icmp .gt 7, 3) := by decide +kernel
theorem dX7_rule_23 : decode cX7_rule 23 = .ok (.ifCond .le 10, 3) := by decide +kernel
theorem dX7_rule_37 : decode cX7_rule 37 = .ok (.return_, 1) := by decide +kernel
theorem dX7_admit_3 : decode cX7_admit 3 = .ok (.invokevirtual 128, 3) := by decide +kernel
theorem dX7_admit_6 : decode cX7_admit 6 = .ok (.ifCond .ne 7, 3) := by decide +kernel
theorem dX7_admit_15 : decode cX7_admit 15 = .ok (.if_icmp .lt 10, 3) := by decide +kernel
theorem dX7_admit_22 : decode cX7_admit 22 = .ok (.if_icmp .le 7, 3) := by decide +kernel
theorem dX7_admit_35 : decode cX7_admit 35 = .ok (.ifCond .eq 7, 3) := by decide +kernel
theorem dX7_admit_50 : decode cX7_admit 50 = .ok (.ifCond .le 5, 3) := by decide +kernel
theorem dX7_admit_54 : decode cX7_admit 54 = .ok (.ireturn, 1) := by decide +kernel
theorem dX7_admit_70 : decode cX7_admit 70 = .ok (.if_icmp .ge 125, 3) := by decide +kernel
theorem dX7_admit_85 : decode cX7_admit 85 = .ok (.if_icmp .ge 110, 3) := by decide +kernel
theorem dX7_admit_100 : decode cX7_admit 100 = .ok (.if_icmp .ne 45, 3) := by decide +kernel
theorem dX7_admit_133 : decode cX7_admit 133 = .ok (.if_icmp .le 8, 3) := by decide +kernel
theorem dX7_admit_167 : decode cX7_admit 167 = .ok (.if_icmp .ge 18, 3) := by decide +kernel
theorem dX7_admit_186 : decode cX7_admit 186 = .ok (.invokevirtual 132, 3) := by decide +kernel
theorem dX7_admit_197 : decode cX7_admit 197 = .ok (.ireturn, 1) := by decide +kernel
theorem dX7_remember_7 : decode cX7_remember 7 = .ok (.if_icmp .ne 44, 3) := by decide +kernel
theorem dX7_remember_18 : decode cX7_remember 18 = .ok (.if_icmp .ge 23, 3) := by decide +kernel
theorem dX7_remember_74 : decode cX7_remember 74 = .ok (.return_, 1) := by decide +kernel
theorem dX7_busiest_3 : decode cX7_busiest 3 = .ok (.if_icmp .lt 13, 3) := by decide +kernel
theorem dX7_busiest_9 : decode cX7_busiest 9 = .ok (.if_icmp .gt 7, 3) := by decide +kernel
theorem dX7_busiest_24 : decode cX7_busiest 24 = .ok (.ifCond .le 5, 3) := by decide +kernel
theorem dX7_busiest_28 : decode cX7_busiest 28 = .ok (.ireturn, 1) := by decide +kernel
theorem dX7_busiest_42 : decode cX7_busiest 42 = .ok (.if_icmp .ge 56, 3) := by decide +kernel
theorem dX7_busiest_62 : decode cX7_busiest 62 = .ok (.ifCond .lt 9, 3) := by decide +kernel
theorem dX7_busiest_78 : decode cX7_busiest 78 = .ok (.if_icmp .le 12, 3) := by decide +kernel
theorem dX7_busiest_99 : decode cX7_busiest 99 = .ok (.ireturn, 1) := by decide +kernel
theorem dX7_plead_3 : decode cX7_plead 3 = .ok (.invokevirtual 128, 3) := by decide +kernel
theorem dX7_plead_6 : decode cX7_plead 6 = .ok (.ifCond .ne 7, 3) := by decide +kernel
theorem dX7_plead_15 : decode cX7_plead 15 = .ok (.if_icmp .lt 9, 3) := by decide +kernel
theorem dX7_plead_21 : decode cX7_plead 21 = .ok (.if_icmp .le 7, 3) := by decide +kernel
theorem dX7_plead_34 : decode cX7_plead 34 = .ok (.ifCond .eq 7, 3) := by decide +kernel
theorem dX7_plead_43 : decode cX7_plead 43 = .ok (.invokevirtual 139, 3) := by decide +kernel
theorem dX7_plead_46 : decode cX7_plead 46 = .ok (.ifCond .ne 7, 3) := by decide +kernel
theorem dX7_plead_61 : decode cX7_plead 61 = .ok (.ifCond .ne 25, 3) := by decide +kernel
theorem dX7_plead_83 : decode cX7_plead 83 = .ok (.invokevirtual 142, 3) := by decide +kernel
theorem dX7_plead_86 : decode cX7_plead 86 = .ok (.return_, 1) := by decide +kernel
theorem dX7_canSend_8 : decode cX7_canSend 8 = .ok (.if_icmp .ge 7, 3) := by decide +kernel
theorem dX7_canSend_16 : decode cX7_canSend 16 = .ok (.ireturn, 1) := by decide +kernel
theorem dX7_send_117 : decode cX7_send 117 = .ok (.invokevirtual 135, 3) := by decide +kernel
theorem dX7_send_120 : decode cX7_send 120 = .ok (.return_, 1) := by decide +kernel
theorem dX7_put_7 : decode cX7_put 7 = .ok (.if_icmp .ge 83, 3) := by decide +kernel
theorem dX7_put_90 : decode cX7_put 90 = .ok (.return_, 1) := by decide +kernel
theorem dX7_back_2 : decode cX7_back 2 = .ok (.invokevirtual 128, 3) := by decide +kernel
theorem dX7_back_5 : decode cX7_back 5 = .ok (.ifCond .eq 16, 3) := by decide +kernel
theorem dX7_back_15 : decode cX7_back 15 = .ok (.invokestatic 145, 3) := by decide +kernel
theorem dX7_back_26 : decode cX7_back 26 = .ok (.ifCond .lt 39, 3) := by decide +kernel
theorem dX7_back_31 : decode cX7_back 31 = .ok (.if_icmp .lt 34, 3) := by decide +kernel
theorem dX7_back_58 : decode cX7_back 58 = .ok (.if_icmp .gt 7, 3) := by decide +kernel
theorem dX7_back_71 : decode cX7_back 71 = .ok (.invokevirtual 128, 3) := by decide +kernel
theorem dX7_back_74 : decode cX7_back 74 = .ok (.ifCond .ne 7, 3) := by decide +kernel
theorem dX7_back_87 : decode cX7_back 87 = .ok (.ifCond .eq 7, 3) := by decide +kernel
theorem dX7_back_96 : decode cX7_back 96 = .ok (.ifCond .ne 7, 3) := by decide +kernel
theorem dX7_back_105 : decode cX7_back 105 = .ok (.invokevirtual 139, 3) := by decide +kernel
theorem dX7_back_108 : decode cX7_back 108 = .ok (.ifCond .ne 7, 3) := by decide +kernel
theorem dX7_back_123 : decode cX7_back 123 = .ok (.ifCond .ne 28, 3) := by decide +kernel
theorem dX7_back_148 : decode cX7_back 148 = .ok (.invokevirtual 142, 3) := by decide +kernel
theorem dX7_back_151 : decode cX7_back 151 = .ok (.return_, 1) := by decide +kernel
theorem dX7_which_9 : decode cX7_which 9 = .ok (.ifCond .lt 17, 3) := by decide +kernel
theorem dX7_which_15 : decode cX7_which 15 = .ok (.ifCond .lt 11, 3) := by decide +kernel
theorem dX7_which_23 : decode cX7_which 23 = .ok (.ifCond .le 7, 3) := by decide +kernel
theorem dX7_which_32 : decode cX7_which 32 = .ok (.ireturn, 1) := by decide +kernel
theorem dX7_split_5 : decode cX7_split 5 = .ok (.ifCond .eq 7, 3) := by decide +kernel
theorem dX7_split_20 : decode cX7_split 20 = .ok (.ifCond .le 5, 3) := by decide +kernel
theorem dX7_split_24 : decode cX7_split 24 = .ok (.ireturn, 1) := by decide +kernel
theorem dX7_split_31 : decode cX7_split 31 = .ok (.if_icmp .ge 225, 3) := by decide +kernel
theorem dX7_split_41 : decode cX7_split 41 = .ok (.if_icmp .ge 58, 3) := by decide +kernel
theorem dX7_split_54 : decode cX7_split 54 = .ok (.invokevirtual 139, 3) := by decide +kernel
theorem dX7_split_57 : decode cX7_split 57 = .ok (.ifCond .eq 16, 3) := by decide +kernel
theorem dX7_split_107 : decode cX7_split 107 = .ok (.ifCond .le 7, 3) := by decide +kernel
theorem dX7_split_119 : decode cX7_split 119 = .ok (.ifCond .eq 49, 3) := by decide +kernel
theorem dX7_split_130 : decode cX7_split 130 = .ok (.if_icmp .ne 12, 3) := by decide +kernel
theorem dX7_split_136 : decode cX7_split 136 = .ok (.invokevirtual 166, 3) := by decide +kernel
theorem dX7_split_144 : decode cX7_split 144 = .ok (.invokevirtual 162, 3) := by decide +kernel
theorem dX7_split_149 : decode cX7_split 149 = .ok (.ifCond .le 13, 3) := by decide +kernel
theorem dX7_split_155 : decode cX7_split 155 = .ok (.if_icmp .ge 7, 3) := by decide +kernel
theorem dX7_split_177 : decode cX7_split 177 = .ok (.if_icmp .ge 73, 3) := by decide +kernel
theorem dX7_split_187 : decode cX7_split 187 = .ok (.ifCond .le 57, 3) := by decide +kernel
theorem dX7_split_241 : decode cX7_split 241 = .ok (.invokevirtual 142, 3) := by decide +kernel
theorem dX7_split_257 : decode cX7_split 257 = .ok (.ireturn, 1) := by decide +kernel
theorem dX7_byUse_11 : decode cX7_byUse 11 = .ok (.if_icmp .ge 37, 3) := by decide +kernel
theorem dX7_byUse_17 : decode cX7_byUse 17 = .ok (.invokevirtual 159, 3) := by decide +kernel
theorem dX7_byUse_20 : decode cX7_byUse 20 = .ok (.ifCond .eq 20, 3) := by decide +kernel
theorem dX7_byUse_51 : decode cX7_byUse 51 = .ok (.ifCond .ne 9, 3) := by decide +kernel
theorem dX7_byUse_56 : decode cX7_byUse 56 = .ok (.invokevirtual 162, 3) := by decide +kernel
theorem dX7_byUse_59 : decode cX7_byUse 59 = .ok (.ireturn, 1) := by decide +kernel
theorem dX7_byUse_72 : decode cX7_byUse 72 = .ok (.if_icmp .ge 168, 3) := by decide +kernel
theorem dX7_byUse_84 : decode cX7_byUse 84 = .ok (.invokevirtual 159, 3) := by decide +kernel
theorem dX7_byUse_87 : decode cX7_byUse 87 = .ok (.ifCond .ne 7, 3) := by decide +kernel
theorem dX7_byUse_127 : decode cX7_byUse 127 = .ok (.ifCond .ne 107, 3) := by decide +kernel
theorem dX7_byUse_168 : decode cX7_byUse 168 = .ok (.ifCond .le 21, 3) := by decide +kernel
theorem dX7_byUse_222 : decode cX7_byUse 222 = .ok (.invokevirtual 159, 3) := by decide +kernel
theorem dX7_byUse_225 : decode cX7_byUse 225 = .ok (.ifCond .ne 7, 3) := by decide +kernel
theorem dX7_byUse_242 : decode cX7_byUse 242 = .ok (.ifCond .le 7, 3) := by decide +kernel
theorem dX7_byUse_254 : decode cX7_byUse 254 = .ok (.ifCond .eq 113, 3) := by decide +kernel
theorem dX7_byUse_269 : decode cX7_byUse 269 = .ok (.if_icmp .ge 51, 3) := by decide +kernel
theorem dX7_byUse_279 : decode cX7_byUse 279 = .ok (.ifCond .ne 31, 3) := by decide +kernel
theorem dX7_byUse_284 : decode cX7_byUse 284 = .ok (.ifCond .lt 21, 3) := by decide +kernel
theorem dX7_byUse_302 : decode cX7_byUse 302 = .ok (.ifCond .le 8, 3) := by decide +kernel
theorem dX7_byUse_322 : decode cX7_byUse 322 = .ok (.ifCond .lt 25, 3) := by decide +kernel
theorem dX7_byUse_349 : decode cX7_byUse 349 = .ok (.ifCond .lt 12, 3) := by decide +kernel
theorem dX7_byUse_354 : decode cX7_byUse 354 = .ok (.ifCond .le 7, 3) := by decide +kernel
theorem dX7_byUse_369 : decode cX7_byUse 369 = .ok (.ireturn, 1) := by decide +kernel
theorem dX7_wantsMore_12 : decode cX7_wantsMore 12 = .ok (.if_icmp .ge 7, 3) := by decide +kernel
theorem dX7_wantsMore_20 : decode cX7_wantsMore 20 = .ok (.ireturn, 1) := by decide +kernel
theorem dX7_equal_3 : decode cX7_equal 3 = .ok (.ifCond .le 7, 3) := by decide +kernel
theorem dX7_equal_13 : decode cX7_equal 13 = .ok (.ifCond .eq 101, 3) := by decide +kernel
theorem dX7_equal_28 : decode cX7_equal 28 = .ok (.if_icmp .ge 49, 3) := by decide +kernel
theorem dX7_equal_34 : decode cX7_equal 34 = .ok (.invokevirtual 159, 3) := by decide +kernel
theorem dX7_equal_37 : decode cX7_equal 37 = .ok (.ifCond .eq 30, 3) := by decide +kernel
theorem dX7_equal_42 : decode cX7_equal 42 = .ok (.ifCond .lt 20, 3) := by decide +kernel
theorem dX7_equal_59 : decode cX7_equal 59 = .ok (.if_icmp .ge 8, 3) := by decide +kernel
theorem dX7_equal_79 : decode cX7_equal 79 = .ok (.ifCond .lt 17, 3) := by decide +kernel
theorem dX7_equal_98 : decode cX7_equal 98 = .ok (.ifCond .lt 11, 3) := by decide +kernel
theorem dX7_equal_102 : decode cX7_equal 102 = .ok (.ifCond .le 7, 3) := by decide +kernel
theorem dX7_equal_115 : decode cX7_equal 115 = .ok (.ireturn, 1) := by decide +kernel
theorem dX7_deliver_3 : decode cX7_deliver 3 = .ok (.invokevirtual 169, 3) := by decide +kernel
theorem dX7_deliver_6 : decode cX7_deliver 6 = .ok (.ifCond .eq 7, 3) := by decide +kernel
theorem dX7_deliver_21 : decode cX7_deliver 21 = .ok (.ifCond .le 7, 3) := by decide +kernel
theorem dX7_deliver_30 : decode cX7_deliver 30 = .ok (.invokevirtual 172, 3) := by decide +kernel
theorem dX7_deliver_33 : decode cX7_deliver 33 = .ok (.ireturn, 1) := by decide +kernel
theorem dX7_isLetter_1 : decode cX7_isLetter 1 = .ok (.ifCond .lt 15, 3) := by decide +kernel
theorem dX7_isLetter_9 : decode cX7_isLetter 9 = .ok (.if_icmp .ge 7, 3) := by decide +kernel
theorem dX7_isLetter_17 : decode cX7_isLetter 17 = .ok (.ireturn, 1) := by decide +kernel
theorem dX7_come_64 : decode cX7_come 64 = .ok (.invokevirtual 149, 3) := by decide +kernel
theorem dX7_come_68 : decode cX7_come 68 = .ok (.ifCond .eq 13, 3) := by decide +kernel
theorem dX7_come_73 : decode cX7_come 73 = .ok (.if_icmp .eq 8, 3) := by decide +kernel
theorem dX7_come_78 : decode cX7_come 78 = .ok (.if_icmp .ne 7, 3) := by decide +kernel
theorem dX7_come_90 : decode cX7_come 90 = .ok (.ifCond .eq 13, 3) := by decide +kernel
theorem dX7_come_97 : decode cX7_come 97 = .ok (.ifCond .eq 18, 3) := by decide +kernel
theorem dX7_come_110 : decode cX7_come 110 = .ok (.ifCond .eq 5, 3) := by decide +kernel
theorem dX7_come_114 : decode cX7_come 114 = .ok (.ireturn, 1) := by decide +kernel
theorem dX7_come_117 : decode cX7_come 117 = .ok (.if_icmp .ne 16, 3) := by decide +kernel
theorem dX7_come_128 : decode cX7_come 128 = .ok (.invokevirtual 152, 3) := by decide +kernel
theorem dX7_come_132 : decode cX7_come 132 = .ok (.ireturn, 1) := by decide +kernel
theorem dX7_come_135 : decode cX7_come 135 = .ok (.if_icmp .ne 13, 3) := by decide +kernel
theorem dX7_come_143 : decode cX7_come 143 = .ok (.invokevirtual 152, 3) := by decide +kernel
theorem dX7_come_147 : decode cX7_come 147 = .ok (.ireturn, 1) := by decide +kernel
theorem dX7_come_150 : decode cX7_come 150 = .ok (.ifCond .eq 8, 3) := by decide +kernel
theorem dX7_come_176 : decode cX7_come 176 = .ok (.if_icmp .ne 7, 3) := by decide +kernel
theorem dX7_come_188 : decode cX7_come 188 = .ok (.ifCond .eq 105, 3) := by decide +kernel
theorem dX7_come_203 : decode cX7_come 203 = .ok (.ifCond .ne 18, 3) := by decide +kernel
theorem dX7_come_215 : decode cX7_come 215 = .ok (.invokevirtual 156, 3) := by decide +kernel
theorem dX7_come_223 : decode cX7_come 223 = .ok (.if_icmp .ne 34, 3) := by decide +kernel
theorem dX7_come_232 : decode cX7_come 232 = .ok (.invokestatic 145, 3) := by decide +kernel
theorem dX7_come_239 : decode cX7_come 239 = .ok (.ifCond .lt 15, 3) := by decide +kernel
theorem dX7_come_266 : decode cX7_come 266 = .ok (.invokestatic 145, 3) := by decide +kernel
theorem dX7_come_273 : decode cX7_come 273 = .ok (.ifCond .lt 20, 3) := by decide +kernel
theorem dX7_come_296 : decode cX7_come 296 = .ok (.ifCond .eq 7, 3) := by decide +kernel
theorem dX7_come_316 : decode cX7_come 316 = .ok (.invokevirtual 135, 3) := by decide +kernel
theorem dX7_come_321 : decode cX7_come 321 = .ok (.ifCond .eq 7, 3) := by decide +kernel
theorem dX7_come_329 : decode cX7_come 329 = .ok (.ireturn, 1) := by decide +kernel
theorem dX7_remove_15 : decode cX7_remove 15 = .ok (.if_icmp .ge 24, 3) := by decide +kernel
theorem dX7_remove_49 : decode cX7_remove 49 = .ok (.return_, 1) := by decide +kernel
theorem dX7_received_12 : decode cX7_received 12 = .ok (.ifCond .le 74, 3) := by decide +kernel
theorem dX7_received_24 : decode cX7_received 24 = .ok (.if_icmp .gt 62, 3) := by decide +kernel
theorem dX7_received_43 : decode cX7_received 43 = .ok (.if_icmp .ge 30, 3) := by decide +kernel
theorem dX7_received_86 : decode cX7_received 86 = .ok (.return_, 1) := by decide +kernel
theorem dX7_plea_5 : decode cX7_plea 5 = .ok (.invokestatic 145, 3) := by decide +kernel
theorem dX7_plea_12 : decode cX7_plea 12 = .ok (.ifCond .ge 4, 3) := by decide +kernel
theorem dX7_plea_15 : decode cX7_plea 15 = .ok (.return_, 1) := by decide +kernel
theorem dX7_plea_20 : decode cX7_plea 20 = .ok (.ifCond .le 32, 3) := by decide +kernel
theorem dX7_plea_51 : decode cX7_plea 51 = .ok (.return_, 1) := by decide +kernel
theorem dX7_plea_60 : decode cX7_plea 60 = .ok (.if_icmp .ge 7, 3) := by decide +kernel
theorem dX7_plea_78 : decode cX7_plea 78 = .ok (.ifCond .le 40, 3) := by decide +kernel
theorem dX7_plea_86 : decode cX7_plea 86 = .ok (.invokevirtual 139, 3) := by decide +kernel
theorem dX7_plea_89 : decode cX7_plea 89 = .ok (.ifCond .eq 29, 3) := by decide +kernel
theorem dX7_plea_115 : decode cX7_plea 115 = .ok (.invokevirtual 142, 3) := by decide +kernel
theorem dX7_plea_118 : decode cX7_plea 118 = .ok (.return_, 1) := by decide +kernel
theorem dX7_deliverAll_2 : decode cX7_deliverAll 2 = .ok (.ifCond .lt 14, 3) := by decide +kernel
theorem dX7_deliverAll_9 : decode cX7_deliverAll 9 = .ok (.if_icmp .gt 7, 3) := by decide +kernel
theorem dX7_deliverAll_26 : decode cX7_deliverAll 26 = .ok (.ifCond .ne 27, 3) := by decide +kernel
theorem dX7_deliverAll_31 : decode cX7_deliverAll 31 = .ok (.if_icmp .ge 22, 3) := by decide +kernel
theorem dX7_deliverAll_38 : decode cX7_deliverAll 38 = .ok (.ifCond .le 15, 3) := by decide +kernel
theorem dX7_deliverAll_43 : decode cX7_deliverAll 43 = .ok (.invokevirtual 172, 3) := by decide +kernel
theorem dX7_deliverAll_54 : decode cX7_deliverAll 54 = .ok (.ireturn, 1) := by decide +kernel
theorem dX7_lose_3 : decode cX7_lose 3 = .ok (.invokevirtual 169, 3) := by decide +kernel
theorem dX7_lose_6 : decode cX7_lose 6 = .ok (.ifCond .eq 7, 3) := by decide +kernel
theorem dX7_lose_21 : decode cX7_lose 21 = .ok (.ifCond .ne 8, 3) := by decide +kernel
theorem dX7_lose_26 : decode cX7_lose 26 = .ok (.invokevirtual 149, 3) := by decide +kernel
theorem dX7_lose_29 : decode cX7_lose 29 = .ok (.return_, 1) := by decide +kernel
theorem dX7_twice_3 : decode cX7_twice 3 = .ok (.invokevirtual 169, 3) := by decide +kernel
theorem dX7_twice_6 : decode cX7_twice 6 = .ok (.ifCond .ne 7, 3) := by decide +kernel
theorem dX7_twice_20 : decode cX7_twice 20 = .ok (.if_icmp .ne 7, 3) := by decide +kernel
theorem dX7_twice_35 : decode cX7_twice 35 = .ok (.ifCond .ne 58, 3) := by decide +kernel
theorem dX7_twice_90 : decode cX7_twice 90 = .ok (.invokevirtual 135, 3) := by decide +kernel
theorem dX7_twice_93 : decode cX7_twice 93 = .ok (.return_, 1) := by decide +kernel
theorem dX7_resend_3 : decode cX7_resend 3 = .ok (.invokevirtual 128, 3) := by decide +kernel
theorem dX7_resend_6 : decode cX7_resend 6 = .ok (.ifCond .eq 7, 3) := by decide +kernel
theorem dX7_resend_21 : decode cX7_resend 21 = .ok (.ifCond .le 5, 3) := by decide +kernel
theorem dX7_resend_25 : decode cX7_resend 25 = .ok (.ireturn, 1) := by decide +kernel
theorem dX7_resend_30 : decode cX7_resend 30 = .ok (.if_icmp .ge 110, 3) := by decide +kernel
theorem dX7_resend_34 : decode cX7_resend 34 = .ok (.ifCond .ne 7, 3) := by decide +kernel
theorem dX7_resend_57 : decode cX7_resend 57 = .ok (.if_icmp .ge 77, 3) := by decide +kernel
theorem dX7_resend_125 : decode cX7_resend 125 = .ok (.invokevirtual 135, 3) := by decide +kernel
theorem dX7_resend_156 : decode cX7_resend 156 = .ok (.ireturn, 1) := by decide +kernel
theorem dX7_letter_3 : decode cX7_letter 3 = .ok (.invokevirtual 169, 3) := by decide +kernel
theorem dX7_letter_6 : decode cX7_letter 6 = .ok (.ifCond .ne 7, 3) := by decide +kernel
theorem dX7_letter_14 : decode cX7_letter 14 = .ok (.ifCond .lt 8, 3) := by decide +kernel
theorem dX7_letter_19 : decode cX7_letter 19 = .ok (.if_icmp .le 7, 3) := by decide +kernel
theorem dX7_letter_34 : decode cX7_letter 34 = .ok (.ifCond .le 7, 3) := by decide +kernel
theorem dX7_letter_52 : decode cX7_letter 52 = .ok (.ireturn, 1) := by decide +kernel
theorem dX7_crash_3 : decode cX7_crash 3 = .ok (.invokevirtual 128, 3) := by decide +kernel
theorem dX7_crash_6 : decode cX7_crash 6 = .ok (.ifCond .ne 7, 3) := by decide +kernel
theorem dX7_crash_19 : decode cX7_crash 19 = .ok (.ifCond .eq 7, 3) := by decide +kernel
theorem dX7_crash_34 : decode cX7_crash 34 = .ok (.ifCond .ne 10, 3) := by decide +kernel
theorem dX7_crash_44 : decode cX7_crash 44 = .ok (.return_, 1) := by decide +kernel
theorem dX7_restart_3 : decode cX7_restart 3 = .ok (.invokevirtual 128, 3) := by decide +kernel
theorem dX7_restart_6 : decode cX7_restart 6 = .ok (.ifCond .eq 7, 3) := by decide +kernel
theorem dX7_restart_21 : decode cX7_restart 21 = .ok (.ifCond .gt 12, 3) := by decide +kernel
theorem dX7_restart_30 : decode cX7_restart 30 = .ok (.ifCond .ne 5, 3) := by decide +kernel
theorem dX7_restart_34 : decode cX7_restart 34 = .ok (.ireturn, 1) := by decide +kernel
theorem dX7_restart_52 : decode cX7_restart 52 = .ok (.if_icmp .ge 21, 3) := by decide +kernel
theorem dX7_restart_74 : decode cX7_restart 74 = .ok (.ireturn, 1) := by decide +kernel
theorem dX7_desk_10 : decode cX7_desk 10 = .ok (.if_icmp .eq 7, 3) := by decide +kernel
theorem dX7_desk_27 : decode cX7_desk 27 = .ok (.ifCond .eq 22, 3) := by decide +kernel
theorem dX7_desk_33 : decode cX7_desk 33 = .ok (.if_icmp .ge 16, 3) := by decide +kernel
theorem dX7_desk_50 : decode cX7_desk 50 = .ok (.ireturn, 1) := by decide +kernel
theorem dX7_about_3 : decode cX7_about 3 = .ok (.invokevirtual 128, 3) := by decide +kernel
theorem dX7_about_6 : decode cX7_about 6 = .ok (.ifCond .ne 7, 3) := by decide +kernel
theorem dX7_about_14 : decode cX7_about 14 = .ok (.ifCond .lt 8, 3) := by decide +kernel
theorem dX7_about_19 : decode cX7_about 19 = .ok (.if_icmp .le 7, 3) := by decide +kernel
theorem dX7_about_34 : decode cX7_about 34 = .ok (.ifCond .le 5, 3) := by decide +kernel
theorem dX7_about_38 : decode cX7_about 38 = .ok (.lreturn, 1) := by decide +kernel
theorem dX7_about_40 : decode cX7_about 40 = .ok (.ifCond .ne 12, 3) := by decide +kernel
theorem dX7_about_54 : decode cX7_about 54 = .ok (.if_icmp .ne 13, 3) := by decide +kernel
theorem dX7_about_73 : decode cX7_about 73 = .ok (.ifCond .eq 7, 3) := by decide +kernel
theorem dX7_about_81 : decode cX7_about 81 = .ok (.lreturn, 1) := by decide +kernel
theorem dX7_has_3 : decode cX7_has 3 = .ok (.invokevirtual 128, 3) := by decide +kernel
theorem dX7_has_6 : decode cX7_has 6 = .ok (.ifCond .ne 7, 3) := by decide +kernel
theorem dX7_has_14 : decode cX7_has 14 = .ok (.ifCond .lt 8, 3) := by decide +kernel
theorem dX7_has_19 : decode cX7_has 19 = .ok (.if_icmp .le 7, 3) := by decide +kernel
theorem dX7_has_34 : decode cX7_has 34 = .ok (.ifCond .le 7, 3) := by decide +kernel
theorem dX7_has_48 : decode cX7_has 48 = .ok (.invokestatic 145, 3) := by decide +kernel
theorem dX7_has_55 : decode cX7_has 55 = .ok (.ifCond .ge 5, 3) := by decide +kernel
theorem dX7_has_59 : decode cX7_has 59 = .ok (.ireturn, 1) := by decide +kernel
theorem dX7_has_61 : decode cX7_has 61 = .ok (.ifCond .ne 17, 3) := by decide +kernel
theorem dX7_has_80 : decode cX7_has 80 = .ok (.if_icmp .ne 17, 3) := by decide +kernel
theorem dX7_has_108 : decode cX7_has 108 = .ok (.ireturn, 1) := by decide +kernel
theorem dX7_there_10 : decode cX7_there 10 = .ok (.invokestatic 145, 3) := by decide +kernel
theorem dX7_there_15 : decode cX7_there 15 = .ok (.ifCond .ge 7, 3) := by decide +kernel
theorem dX7_there_28 : decode cX7_there 28 = .ok (.ireturn, 1) := by decide +kernel
theorem dX7_used_6 : decode cX7_used 6 = .ok (.ifCond .lt 19, 3) := by decide +kernel
theorem dX7_used_13 : decode cX7_used 13 = .ok (.if_icmp .ge 12, 3) := by decide +kernel
theorem dX7_used_26 : decode cX7_used 26 = .ok (.ireturn, 1) := by decide +kernel
theorem dX7_count_2 : decode cX7_count 2 = .ok (.ifCond .lt 12, 3) := by decide +kernel
theorem dX7_count_7 : decode cX7_count 7 = .ok (.if_icmp .gt 7, 3) := by decide +kernel
theorem dX7_count_22 : decode cX7_count 22 = .ok (.ifCond .le 5, 3) := by decide +kernel
theorem dX7_count_26 : decode cX7_count 26 = .ok (.ireturn, 1) := by decide +kernel
theorem dX7_count_34 : decode cX7_count 34 = .ok (.if_icmp .ge 26, 3) := by decide +kernel
theorem dX7_count_43 : decode cX7_count 43 = .ok (.ifCond .le 9, 3) := by decide +kernel
theorem dX7_count_61 : decode cX7_count 61 = .ok (.ifCond .ne 10, 3) := by decide +kernel
theorem dX7_count_73 : decode cX7_count 73 = .ok (.if_icmp .ne 15, 3) := by decide +kernel
theorem dX7_count_90 : decode cX7_count 90 = .ok (.if_icmp .ne 10, 3) := by decide +kernel
theorem dX7_count_101 : decode cX7_count 101 = .ok (.ireturn, 1) := by decide +kernel
theorem dL_law_0 : decode cL_law 0 = .ok (.new 8, 3) := by decide +kernel
theorem dL_law_4 : decode cL_law 4 = .ok (.invokespecial 87, 3) := by decide +kernel
theorem dL_law_8 : decode cL_law 8 = .ok (.new 88, 3) := by decide +kernel
theorem dL_law_12 : decode cL_law 12 = .ok (.invokespecial 90, 3) := by decide +kernel
theorem dL_law_17 : decode cL_law 17 = .ok (.newarray .long, 2) := by decide +kernel
theorem dL_law_29 : decode cL_law 29 = .ok (.if_icmp .gt 1290, 3) := by decide +kernel
theorem dL_law_39 : decode cL_law 39 = .ok (.tableswitch 1274 0 22 #[105, 177, 213, 261, 297, 365, 413, 473, 517, 573, 629, 665, 701, 757, 825, 861, 924, 965, 1032, 1112, 1137, 1162, 1218], 105) := by decide +kernel
theorem dL_law_169 : decode cL_law 169 = .ok (.invokestatic 91, 3) := by decide +kernel
theorem dL_law_199 : decode cL_law 199 = .ok (.invokevirtual 96, 3) := by decide +kernel
theorem dL_law_203 : decode cL_law 203 = .ok (.invokevirtual 97, 3) := by decide +kernel
theorem dL_law_208 : decode cL_law 208 = .ok (.if_icmp .eq 5, 3) := by decide +kernel
theorem dL_law_212 : decode cL_law 212 = .ok (.ireturn, 1) := by decide +kernel
theorem dL_law_223 : decode cL_law 223 = .ok (.invokestatic 100, 3) := by decide +kernel
theorem dL_law_235 : decode cL_law 235 = .ok (.invokevirtual 103, 3) := by decide +kernel
theorem dL_law_239 : decode cL_law 239 = .ok (.invokevirtual 97, 3) := by decide +kernel
theorem dL_law_244 : decode cL_law 244 = .ok (.if_icmp .eq 5, 3) := by decide +kernel
theorem dL_law_248 : decode cL_law 248 = .ok (.ireturn, 1) := by decide +kernel
theorem dL_law_265 : decode cL_law 265 = .ok (.invokestatic 104, 3) := by decide +kernel
theorem dL_law_283 : decode cL_law 283 = .ok (.invokevirtual 107, 3) := by decide +kernel
theorem dL_law_287 : decode cL_law 287 = .ok (.invokevirtual 97, 3) := by decide +kernel
theorem dL_law_292 : decode cL_law 292 = .ok (.if_icmp .eq 5, 3) := by decide +kernel
theorem dL_law_296 : decode cL_law 296 = .ok (.ireturn, 1) := by decide +kernel
theorem dL_law_307 : decode cL_law 307 = .ok (.invokestatic 108, 3) := by decide +kernel
theorem dL_law_319 : decode cL_law 319 = .ok (.invokevirtual 110, 3) := by decide +kernel
theorem dL_law_323 : decode cL_law 323 = .ok (.invokevirtual 97, 3) := by decide +kernel
theorem dL_law_328 : decode cL_law 328 = .ok (.if_icmp .eq 5, 3) := by decide +kernel
theorem dL_law_332 : decode cL_law 332 = .ok (.ireturn, 1) := by decide +kernel
theorem dL_law_350 : decode cL_law 350 = .ok (.invokestatic 111, 3) := by decide +kernel
theorem dL_law_368 : decode cL_law 368 = .ok (.invokevirtual 114, 3) := by decide +kernel
theorem dL_law_374 : decode cL_law 374 = .ok (.invokevirtual 97, 3) := by decide +kernel
theorem dL_law_379 : decode cL_law 379 = .ok (.if_icmp .eq 5, 3) := by decide +kernel
theorem dL_law_383 : decode cL_law 383 = .ok (.ireturn, 1) := by decide +kernel
theorem dL_law_386 : decode cL_law 386 = .ok (.ifCond .ne 15, 3) := by decide +kernel
theorem dL_law_396 : decode cL_law 396 = .ok (.ifCond .eq 5, 3) := by decide +kernel
theorem dL_law_400 : decode cL_law 400 = .ok (.ireturn, 1) := by decide +kernel
theorem dL_law_417 : decode cL_law 417 = .ok (.invokestatic 115, 3) := by decide +kernel
theorem dL_law_435 : decode cL_law 435 = .ok (.invokevirtual 117, 3) := by decide +kernel
theorem dL_law_439 : decode cL_law 439 = .ok (.invokevirtual 97, 3) := by decide +kernel
theorem dL_law_444 : decode cL_law 444 = .ok (.if_icmp .eq 5, 3) := by decide +kernel
theorem dL_law_448 : decode cL_law 448 = .ok (.ireturn, 1) := by decide +kernel
theorem dL_law_471 : decode cL_law 471 = .ok (.invokestatic 118, 3) := by decide +kernel
theorem dL_law_495 : decode cL_law 495 = .ok (.invokevirtual 121, 3) := by decide +kernel
theorem dL_law_499 : decode cL_law 499 = .ok (.invokevirtual 97, 3) := by decide +kernel
theorem dL_law_504 : decode cL_law 504 = .ok (.if_icmp .eq 5, 3) := by decide +kernel
theorem dL_law_508 : decode cL_law 508 = .ok (.ireturn, 1) := by decide +kernel
theorem dL_law_514 : decode cL_law 514 = .ok (.invokestatic 122, 3) := by decide +kernel
theorem dL_law_520 : decode cL_law 520 = .ok (.invokevirtual 125, 3) := by decide +kernel
theorem dL_law_526 : decode cL_law 526 = .ok (.invokevirtual 97, 3) := by decide +kernel
theorem dL_law_531 : decode cL_law 531 = .ok (.if_icmp .eq 5, 3) := by decide +kernel
theorem dL_law_535 : decode cL_law 535 = .ok (.ireturn, 1) := by decide +kernel
theorem dL_law_538 : decode cL_law 538 = .ok (.ifCond .ne 15, 3) := by decide +kernel
theorem dL_law_548 : decode cL_law 548 = .ok (.ifCond .eq 5, 3) := by decide +kernel
theorem dL_law_552 : decode cL_law 552 = .ok (.ireturn, 1) := by decide +kernel
theorem dL_law_564 : decode cL_law 564 = .ok (.invokestatic 126, 3) := by decide +kernel
theorem dL_law_576 : decode cL_law 576 = .ok (.invokevirtual 129, 3) := by decide +kernel
theorem dL_law_582 : decode cL_law 582 = .ok (.invokevirtual 97, 3) := by decide +kernel
theorem dL_law_587 : decode cL_law 587 = .ok (.if_icmp .eq 5, 3) := by decide +kernel
theorem dL_law_591 : decode cL_law 591 = .ok (.ireturn, 1) := by decide +kernel
theorem dL_law_594 : decode cL_law 594 = .ok (.ifCond .ne 15, 3) := by decide +kernel
theorem dL_law_604 : decode cL_law 604 = .ok (.ifCond .eq 5, 3) := by decide +kernel
theorem dL_law_608 : decode cL_law 608 = .ok (.ireturn, 1) := by decide +kernel
theorem dL_law_620 : decode cL_law 620 = .ok (.invokestatic 130, 3) := by decide +kernel
theorem dL_law_632 : decode cL_law 632 = .ok (.invokevirtual 132, 3) := by decide +kernel
theorem dL_law_638 : decode cL_law 638 = .ok (.invokevirtual 97, 3) := by decide +kernel
theorem dL_law_643 : decode cL_law 643 = .ok (.if_icmp .eq 5, 3) := by decide +kernel
theorem dL_law_647 : decode cL_law 647 = .ok (.ireturn, 1) := by decide +kernel
theorem dL_law_650 : decode cL_law 650 = .ok (.ifCond .ne 15, 3) := by decide +kernel
theorem dL_law_660 : decode cL_law 660 = .ok (.ifCond .eq 5, 3) := by decide +kernel
theorem dL_law_664 : decode cL_law 664 = .ok (.ireturn, 1) := by decide +kernel
theorem dL_law_675 : decode cL_law 675 = .ok (.invokestatic 133, 3) := by decide +kernel
theorem dL_law_687 : decode cL_law 687 = .ok (.invokevirtual 135, 3) := by decide +kernel
theorem dL_law_691 : decode cL_law 691 = .ok (.invokevirtual 97, 3) := by decide +kernel
theorem dL_law_696 : decode cL_law 696 = .ok (.if_icmp .eq 5, 3) := by decide +kernel
theorem dL_law_700 : decode cL_law 700 = .ok (.ireturn, 1) := by decide +kernel
theorem dL_law_711 : decode cL_law 711 = .ok (.invokestatic 136, 3) := by decide +kernel
theorem dL_law_723 : decode cL_law 723 = .ok (.invokevirtual 138, 3) := by decide +kernel
theorem dL_law_727 : decode cL_law 727 = .ok (.invokevirtual 97, 3) := by decide +kernel
theorem dL_law_732 : decode cL_law 732 = .ok (.if_icmp .eq 5, 3) := by decide +kernel
theorem dL_law_736 : decode cL_law 736 = .ok (.ireturn, 1) := by decide +kernel
theorem dL_law_748 : decode cL_law 748 = .ok (.invokestatic 139, 3) := by decide +kernel
theorem dL_law_760 : decode cL_law 760 = .ok (.invokevirtual 141, 3) := by decide +kernel
theorem dL_law_766 : decode cL_law 766 = .ok (.invokevirtual 97, 3) := by decide +kernel
theorem dL_law_771 : decode cL_law 771 = .ok (.if_icmp .eq 5, 3) := by decide +kernel
theorem dL_law_775 : decode cL_law 775 = .ok (.ireturn, 1) := by decide +kernel
theorem dL_law_778 : decode cL_law 778 = .ok (.ifCond .ne 15, 3) := by decide +kernel
theorem dL_law_788 : decode cL_law 788 = .ok (.ifCond .eq 5, 3) := by decide +kernel
theorem dL_law_792 : decode cL_law 792 = .ok (.ireturn, 1) := by decide +kernel
theorem dL_law_810 : decode cL_law 810 = .ok (.invokestatic 142, 3) := by decide +kernel
theorem dL_law_828 : decode cL_law 828 = .ok (.invokevirtual 144, 3) := by decide +kernel
theorem dL_law_834 : decode cL_law 834 = .ok (.invokevirtual 97, 3) := by decide +kernel
theorem dL_law_839 : decode cL_law 839 = .ok (.if_icmp .eq 5, 3) := by decide +kernel
theorem dL_law_843 : decode cL_law 843 = .ok (.ireturn, 1) := by decide +kernel
theorem dL_law_846 : decode cL_law 846 = .ok (.ifCond .ne 15, 3) := by decide +kernel
theorem dL_law_856 : decode cL_law 856 = .ok (.ifCond .eq 5, 3) := by decide +kernel
theorem dL_law_860 : decode cL_law 860 = .ok (.ireturn, 1) := by decide +kernel
theorem dL_law_871 : decode cL_law 871 = .ok (.invokestatic 145, 3) := by decide +kernel
theorem dL_law_883 : decode cL_law 883 = .ok (.invokevirtual 147, 3) := by decide +kernel
theorem dL_law_887 : decode cL_law 887 = .ok (.invokevirtual 97, 3) := by decide +kernel
theorem dL_law_892 : decode cL_law 892 = .ok (.if_icmp .eq 5, 3) := by decide +kernel
theorem dL_law_896 : decode cL_law 896 = .ok (.ireturn, 1) := by decide +kernel
theorem dL_law_908 : decode cL_law 908 = .ok (.invokestatic 148, 3) := by decide +kernel
theorem dL_law_920 : decode cL_law 920 = .ok (.invokevirtual 150, 3) := by decide +kernel
theorem dL_law_926 : decode cL_law 926 = .ok (.invokevirtual 97, 3) := by decide +kernel
theorem dL_law_931 : decode cL_law 931 = .ok (.if_icmp .eq 5, 3) := by decide +kernel
theorem dL_law_935 : decode cL_law 935 = .ok (.ireturn, 1) := by decide +kernel
theorem dL_law_938 : decode cL_law 938 = .ok (.ifCond .ne 22, 3) := by decide +kernel
theorem dL_law_946 : decode cL_law 946 = .ok (.ifCond .eq 7, 3) := by decide +kernel
theorem dL_law_955 : decode cL_law 955 = .ok (.ifCond .eq 5, 3) := by decide +kernel
theorem dL_law_959 : decode cL_law 959 = .ok (.ireturn, 1) := by decide +kernel
theorem dL_law_970 : decode cL_law 970 = .ok (.ifCond .eq 7, 3) := by decide +kernel
theorem dL_law_978 : decode cL_law 978 = .ok (.invokevirtual 151, 3) := by decide +kernel
theorem dL_law_988 : decode cL_law 988 = .ok (.ifCond .eq 7, 3) := by decide +kernel
theorem dL_law_996 : decode cL_law 996 = .ok (.invokevirtual 155, 3) := by decide +kernel
theorem dL_law_999 : decode cL_law 999 = .ok (.if_icmp .eq 314, 3) := by decide +kernel
theorem dL_law_1003 : decode cL_law 1003 = .ok (.ireturn, 1) := by decide +kernel
theorem dL_law_1018 : decode cL_law 1018 = .ok (.invokestatic 156, 3) := by decide +kernel
theorem dL_law_1036 : decode cL_law 1036 = .ok (.invokevirtual 158, 3) := by decide +kernel
theorem dL_law_1042 : decode cL_law 1042 = .ok (.invokevirtual 97, 3) := by decide +kernel
theorem dL_law_1047 : decode cL_law 1047 = .ok (.if_icmp .eq 5, 3) := by decide +kernel
theorem dL_law_1051 : decode cL_law 1051 = .ok (.ireturn, 1) := by decide +kernel
theorem dL_law_1054 : decode cL_law 1054 = .ok (.ifCond .ne 14, 3) := by decide +kernel
theorem dL_law_1063 : decode cL_law 1063 = .ok (.ifCond .eq 5, 3) := by decide +kernel
theorem dL_law_1067 : decode cL_law 1067 = .ok (.ireturn, 1) := by decide +kernel
theorem dL_law_1091 : decode cL_law 1091 = .ok (.invokestatic 159, 3) := by decide +kernel
theorem dL_law_1115 : decode cL_law 1115 = .ok (.invokevirtual 162, 3) := by decide +kernel
theorem dL_law_1121 : decode cL_law 1121 = .ok (.invokevirtual 97, 3) := by decide +kernel
theorem dL_law_1126 : decode cL_law 1126 = .ok (.if_icmp .eq 5, 3) := by decide +kernel
theorem dL_law_1130 : decode cL_law 1130 = .ok (.ireturn, 1) := by decide +kernel
theorem dL_law_1133 : decode cL_law 1133 = .ok (.ifCond .ne 15, 3) := by decide +kernel
theorem dL_law_1143 : decode cL_law 1143 = .ok (.ifCond .eq 5, 3) := by decide +kernel
theorem dL_law_1147 : decode cL_law 1147 = .ok (.ireturn, 1) := by decide +kernel
theorem dL_law_1158 : decode cL_law 1158 = .ok (.invokevirtual 163, 3) := by decide +kernel
theorem dL_law_1168 : decode cL_law 1168 = .ok (.invokevirtual 166, 3) := by decide +kernel
theorem dL_law_1171 : decode cL_law 1171 = .ok (.if_icmp .eq 142, 3) := by decide +kernel
theorem dL_law_1175 : decode cL_law 1175 = .ok (.ireturn, 1) := by decide +kernel
theorem dL_law_1183 : decode cL_law 1183 = .ok (.invokevirtual 167, 3) := by decide +kernel
theorem dL_law_1193 : decode cL_law 1193 = .ok (.invokevirtual 170, 3) := by decide +kernel
theorem dL_law_1196 : decode cL_law 1196 = .ok (.if_icmp .eq 117, 3) := by decide +kernel
theorem dL_law_1200 : decode cL_law 1200 = .ok (.ireturn, 1) := by decide +kernel
theorem dL_law_1209 : decode cL_law 1209 = .ok (.invokestatic 171, 3) := by decide +kernel
theorem dL_law_1221 : decode cL_law 1221 = .ok (.invokevirtual 173, 3) := by decide +kernel
theorem dL_law_1227 : decode cL_law 1227 = .ok (.invokevirtual 97, 3) := by decide +kernel
theorem dL_law_1232 : decode cL_law 1232 = .ok (.if_icmp .eq 5, 3) := by decide +kernel
theorem dL_law_1236 : decode cL_law 1236 = .ok (.ireturn, 1) := by decide +kernel
theorem dL_law_1239 : decode cL_law 1239 = .ok (.ifCond .ne 15, 3) := by decide +kernel
theorem dL_law_1249 : decode cL_law 1249 = .ok (.ifCond .eq 5, 3) := by decide +kernel
theorem dL_law_1253 : decode cL_law 1253 = .ok (.ireturn, 1) := by decide +kernel
theorem dL_law_1265 : decode cL_law 1265 = .ok (.invokestatic 174, 3) := by decide +kernel
theorem dL_law_1277 : decode cL_law 1277 = .ok (.invokevirtual 176, 3) := by decide +kernel
theorem dL_law_1283 : decode cL_law 1283 = .ok (.invokevirtual 97, 3) := by decide +kernel
theorem dL_law_1288 : decode cL_law 1288 = .ok (.if_icmp .eq 5, 3) := by decide +kernel
theorem dL_law_1292 : decode cL_law 1292 = .ok (.ireturn, 1) := by decide +kernel
theorem dL_law_1295 : decode cL_law 1295 = .ok (.ifCond .ne 15, 3) := by decide +kernel
theorem dL_law_1305 : decode cL_law 1305 = .ok (.ifCond .eq 5, 3) := by decide +kernel
theorem dL_law_1309 : decode cL_law 1309 = .ok (.ireturn, 1) := by decide +kernel
theorem dL_law_1320 : decode cL_law 1320 = .ok (.ireturn, 1) := by decide +kernel
