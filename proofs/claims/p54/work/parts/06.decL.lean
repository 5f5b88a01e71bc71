theorem dL_draw_0 : decode cL_draw 0 = .ok (.iload_n 1, 1) := by decide +kernel
theorem dL_draw_1 : decode cL_draw 1 = .ok (.aload_n 0, 1) := by decide +kernel
theorem dL_draw_2 : decode cL_draw 2 = .ok (.arraylength, 1) := by decide +kernel
theorem dL_draw_3 : decode cL_draw 3 = .ok (.if_icmp .ge 9, 3) := by decide +kernel
theorem dL_draw_6 : decode cL_draw 6 = .ok (.aload_n 0, 1) := by decide +kernel
theorem dL_draw_7 : decode cL_draw 7 = .ok (.iload_n 1, 1) := by decide +kernel
theorem dL_draw_8 : decode cL_draw 8 = .ok (.iaload, 1) := by decide +kernel
theorem dL_draw_9 : decode cL_draw 9 = .ok (.goto 11, 3) := by decide +kernel
theorem dL_draw_12 : decode cL_draw 12 = .ok (.ldc 7, 2) := by decide +kernel
theorem dL_draw_14 : decode cL_draw 14 = .ok (.iload_n 1, 1) := by decide +kernel
theorem dL_draw_15 : decode cL_draw 15 = .ok (.imul, 1) := by decide +kernel
theorem dL_draw_16 : decode cL_draw 16 = .ok (.sipush 11621, 3) := by decide +kernel
theorem dL_draw_19 : decode cL_draw 19 = .ok (.iadd, 1) := by decide +kernel
theorem dL_draw_20 : decode cL_draw 20 = .ok (.ldc 8, 2) := by decide +kernel
theorem dL_draw_22 : decode cL_draw 22 = .ok (.iand, 1) := by decide +kernel
theorem dL_draw_23 : decode cL_draw 23 = .ok (.ireturn, 1) := by decide +kernel
theorem dL_pass_0 : decode cL_pass 0 = .ok (.aload_n 0, 1) := by decide +kernel
theorem dL_pass_1 : decode cL_pass 1 = .ok (.iload_n 1, 1) := by decide +kernel
theorem dL_pass_2 : decode cL_pass 2 = .ok (.invokevirtual 9, 3) := by decide +kernel
theorem dL_pass_5 : decode cL_pass 5 = .ok (.i2l, 1) := by decide +kernel
theorem dL_pass_6 : decode cL_pass 6 = .ok (.lreturn, 1) := by decide +kernel
theorem dL_pass_7 : decode cL_pass 7 = .ok (.astore_n 2, 1) := by decide +kernel
theorem dL_pass_8 : decode cL_pass 8 = .ok (.ldc2_w 17, 3) := by decide +kernel
theorem dL_pass_11 : decode cL_pass 11 = .ok (.lreturn, 1) := by decide +kernel
theorem dL_pass_12 : decode cL_pass 12 = .ok (.astore_n 2, 1) := by decide +kernel
theorem dL_pass_13 : decode cL_pass 13 = .ok (.ldc2_w 21, 3) := by decide +kernel
theorem dL_pass_16 : decode cL_pass 16 = .ok (.lreturn, 1) := by decide +kernel
theorem dL_holiday_0 : decode cL_holiday 0 = .ok (.aload_n 0, 1) := by decide +kernel
theorem dL_holiday_1 : decode cL_holiday 1 = .ok (.iload_n 1, 1) := by decide +kernel
theorem dL_holiday_2 : decode cL_holiday 2 = .ok (.invokevirtual 23, 3) := by decide +kernel
theorem dL_holiday_5 : decode cL_holiday 5 = .ok (.ifCond .eq 7, 3) := by decide +kernel
theorem dL_holiday_8 : decode cL_holiday 8 = .ok (.lconst 1, 1) := by decide +kernel
theorem dL_holiday_9 : decode cL_holiday 9 = .ok (.goto 4, 3) := by decide +kernel
theorem dL_holiday_12 : decode cL_holiday 12 = .ok (.lconst 0, 1) := by decide +kernel
theorem dL_holiday_13 : decode cL_holiday 13 = .ok (.lreturn, 1) := by decide +kernel
theorem dL_holiday_14 : decode cL_holiday 14 = .ok (.astore_n 2, 1) := by decide +kernel
theorem dL_holiday_15 : decode cL_holiday 15 = .ok (.ldc2_w 17, 3) := by decide +kernel
theorem dL_holiday_18 : decode cL_holiday 18 = .ok (.lreturn, 1) := by decide +kernel
theorem dL_holiday_19 : decode cL_holiday 19 = .ok (.astore_n 2, 1) := by decide +kernel
theorem dL_holiday_20 : decode cL_holiday 20 = .ok (.ldc2_w 21, 3) := by decide +kernel
theorem dL_holiday_23 : decode cL_holiday 23 = .ok (.lreturn, 1) := by decide +kernel
theorem dL_setRule_0 : decode cL_setRule 0 = .ok (.aload_n 0, 1) := by decide +kernel
theorem dL_setRule_1 : decode cL_setRule 1 = .ok (.iload_n 1, 1) := by decide +kernel
theorem dL_setRule_2 : decode cL_setRule 2 = .ok (.iload_n 2, 1) := by decide +kernel
theorem dL_setRule_3 : decode cL_setRule 3 = .ok (.iload_n 3, 1) := by decide +kernel
theorem dL_setRule_4 : decode cL_setRule 4 = .ok (.invokevirtual 27, 3) := by decide +kernel
theorem dL_setRule_7 : decode cL_setRule 7 = .ok (.i2l, 1) := by decide +kernel
theorem dL_setRule_8 : decode cL_setRule 8 = .ok (.lreturn, 1) := by decide +kernel
theorem dL_setRule_9 : decode cL_setRule 9 = .ok (.astore 4, 2) := by decide +kernel
theorem dL_setRule_11 : decode cL_setRule 11 = .ok (.ldc2_w 33, 3) := by decide +kernel
theorem dL_setRule_14 : decode cL_setRule 14 = .ok (.lreturn, 1) := by decide +kernel
theorem dL_setRule_15 : decode cL_setRule 15 = .ok (.astore 4, 2) := by decide +kernel
theorem dL_setRule_17 : decode cL_setRule 17 = .ok (.ldc2_w 17, 3) := by decide +kernel
theorem dL_setRule_20 : decode cL_setRule 20 = .ok (.lreturn, 1) := by decide +kernel
theorem dL_open_0 : decode cL_open 0 = .ok (.aload_n 0, 1) := by decide +kernel
theorem dL_open_1 : decode cL_open 1 = .ok (.iload_n 1, 1) := by decide +kernel
theorem dL_open_2 : decode cL_open 2 = .ok (.invokevirtual 35, 3) := by decide +kernel
theorem dL_open_5 : decode cL_open 5 = .ok (.i2l, 1) := by decide +kernel
theorem dL_open_6 : decode cL_open 6 = .ok (.lreturn, 1) := by decide +kernel
theorem dL_open_7 : decode cL_open 7 = .ok (.astore_n 2, 1) := by decide +kernel
theorem dL_open_8 : decode cL_open 8 = .ok (.ldc2_w 33, 3) := by decide +kernel
theorem dL_open_11 : decode cL_open 11 = .ok (.lreturn, 1) := by decide +kernel
theorem dL_open_12 : decode cL_open 12 = .ok (.astore_n 2, 1) := by decide +kernel
theorem dL_open_13 : decode cL_open 13 = .ok (.ldc2_w 21, 3) := by decide +kernel
theorem dL_open_16 : decode cL_open 16 = .ok (.lreturn, 1) := by decide +kernel
theorem dL_join_0 : decode cL_join 0 = .ok (.aload_n 0, 1) := by decide +kernel
theorem dL_join_1 : decode cL_join 1 = .ok (.iload_n 1, 1) := by decide +kernel
theorem dL_join_2 : decode cL_join 2 = .ok (.iload_n 2, 1) := by decide +kernel
theorem dL_join_3 : decode cL_join 3 = .ok (.iload_n 3, 1) := by decide +kernel
theorem dL_join_4 : decode cL_join 4 = .ok (.invokevirtual 38, 3) := by decide +kernel
theorem dL_join_7 : decode cL_join 7 = .ok (.i2l, 1) := by decide +kernel
theorem dL_join_8 : decode cL_join 8 = .ok (.lreturn, 1) := by decide +kernel
theorem dL_join_9 : decode cL_join 9 = .ok (.astore 4, 2) := by decide +kernel
theorem dL_join_11 : decode cL_join 11 = .ok (.ldc2_w 33, 3) := by decide +kernel
theorem dL_join_14 : decode cL_join 14 = .ok (.lreturn, 1) := by decide +kernel
theorem dL_join_15 : decode cL_join 15 = .ok (.astore 4, 2) := by decide +kernel
theorem dL_join_17 : decode cL_join 17 = .ok (.ldc2_w 21, 3) := by decide +kernel
theorem dL_join_20 : decode cL_join 20 = .ok (.lreturn, 1) := by decide +kernel
theorem dL_lead_0 : decode cL_lead 0 = .ok (.aload_n 0, 1) := by decide +kernel
theorem dL_lead_1 : decode cL_lead 1 = .ok (.iload_n 1, 1) := by decide +kernel
theorem dL_lead_2 : decode cL_lead 2 = .ok (.iload_n 2, 1) := by decide +kernel
theorem dL_lead_3 : decode cL_lead 3 = .ok (.invokevirtual 42, 3) := by decide +kernel
theorem dL_lead_6 : decode cL_lead 6 = .ok (.i2l, 1) := by decide +kernel
theorem dL_lead_7 : decode cL_lead 7 = .ok (.lreturn, 1) := by decide +kernel
theorem dL_lead_8 : decode cL_lead 8 = .ok (.astore_n 3, 1) := by decide +kernel
theorem dL_lead_9 : decode cL_lead 9 = .ok (.ldc2_w 33, 3) := by decide +kernel
theorem dL_lead_12 : decode cL_lead 12 = .ok (.lreturn, 1) := by decide +kernel
theorem dL_lead_13 : decode cL_lead 13 = .ok (.astore_n 3, 1) := by decide +kernel
theorem dL_lead_14 : decode cL_lead 14 = .ok (.ldc2_w 21, 3) := by decide +kernel
theorem dL_lead_17 : decode cL_lead 17 = .ok (.lreturn, 1) := by decide +kernel
theorem dL_claim_0 : decode cL_claim 0 = .ok (.aload_n 0, 1) := by decide +kernel
theorem dL_claim_1 : decode cL_claim 1 = .ok (.iload_n 1, 1) := by decide +kernel
theorem dL_claim_2 : decode cL_claim 2 = .ok (.iload_n 2, 1) := by decide +kernel
theorem dL_claim_3 : decode cL_claim 3 = .ok (.iload_n 3, 1) := by decide +kernel
theorem dL_claim_4 : decode cL_claim 4 = .ok (.iload 4, 2) := by decide +kernel
theorem dL_claim_6 : decode cL_claim 6 = .ok (.invokevirtual 46, 3) := by decide +kernel
theorem dL_claim_9 : decode cL_claim 9 = .ok (.i2l, 1) := by decide +kernel
theorem dL_claim_10 : decode cL_claim 10 = .ok (.lreturn, 1) := by decide +kernel
theorem dL_claim_11 : decode cL_claim 11 = .ok (.astore 5, 2) := by decide +kernel
theorem dL_claim_13 : decode cL_claim 13 = .ok (.ldc2_w 33, 3) := by decide +kernel
theorem dL_claim_16 : decode cL_claim 16 = .ok (.lreturn, 1) := by decide +kernel
theorem dL_claim_17 : decode cL_claim 17 = .ok (.astore 5, 2) := by decide +kernel
theorem dL_claim_19 : decode cL_claim 19 = .ok (.ldc2_w 17, 3) := by decide +kernel
theorem dL_claim_22 : decode cL_claim 22 = .ok (.lreturn, 1) := by decide +kernel
theorem dL_claim_23 : decode cL_claim 23 = .ok (.astore 5, 2) := by decide +kernel
theorem dL_claim_25 : decode cL_claim 25 = .ok (.ldc2_w 21, 3) := by decide +kernel
theorem dL_claim_28 : decode cL_claim 28 = .ok (.lreturn, 1) := by decide +kernel
theorem dL_sever_0 : decode cL_sever 0 = .ok (.aload_n 0, 1) := by decide +kernel
theorem dL_sever_1 : decode cL_sever 1 = .ok (.iload_n 1, 1) := by decide +kernel
theorem dL_sever_2 : decode cL_sever 2 = .ok (.invokevirtual 50, 3) := by decide +kernel
theorem dL_sever_5 : decode cL_sever 5 = .ok (.i2l, 1) := by decide +kernel
theorem dL_sever_6 : decode cL_sever 6 = .ok (.lreturn, 1) := by decide +kernel
theorem dL_sever_7 : decode cL_sever 7 = .ok (.astore_n 2, 1) := by decide +kernel
theorem dL_sever_8 : decode cL_sever 8 = .ok (.ldc2_w 33, 3) := by decide +kernel
theorem dL_sever_11 : decode cL_sever 11 = .ok (.lreturn, 1) := by decide +kernel
theorem dL_sever_12 : decode cL_sever 12 = .ok (.astore_n 2, 1) := by decide +kernel
theorem dL_sever_13 : decode cL_sever 13 = .ok (.ldc2_w 21, 3) := by decide +kernel
theorem dL_sever_16 : decode cL_sever 16 = .ok (.lreturn, 1) := by decide +kernel
theorem dL_serve_0 : decode cL_serve 0 = .ok (.aload_n 0, 1) := by decide +kernel
theorem dL_serve_1 : decode cL_serve 1 = .ok (.iload_n 1, 1) := by decide +kernel
theorem dL_serve_2 : decode cL_serve 2 = .ok (.iload_n 2, 1) := by decide +kernel
theorem dL_serve_3 : decode cL_serve 3 = .ok (.invokevirtual 53, 3) := by decide +kernel
theorem dL_serve_6 : decode cL_serve 6 = .ok (.i2l, 1) := by decide +kernel
theorem dL_serve_7 : decode cL_serve 7 = .ok (.lreturn, 1) := by decide +kernel
theorem dL_serve_8 : decode cL_serve 8 = .ok (.astore_n 3, 1) := by decide +kernel
theorem dL_serve_9 : decode cL_serve 9 = .ok (.ldc2_w 33, 3) := by decide +kernel
theorem dL_serve_12 : decode cL_serve 12 = .ok (.lreturn, 1) := by decide +kernel
theorem dL_serve_13 : decode cL_serve 13 = .ok (.astore_n 3, 1) := by decide +kernel
theorem dL_serve_14 : decode cL_serve 14 = .ok (.ldc2_w 21, 3) := by decide +kernel
theorem dL_serve_17 : decode cL_serve 17 = .ok (.lreturn, 1) := by decide +kernel
theorem dL_answer_0 : decode cL_answer 0 = .ok (.aload_n 0, 1) := by decide +kernel
theorem dL_answer_1 : decode cL_answer 1 = .ok (.iload_n 1, 1) := by decide +kernel
theorem dL_answer_2 : decode cL_answer 2 = .ok (.invokevirtual 56, 3) := by decide +kernel
theorem dL_answer_5 : decode cL_answer 5 = .ok (.i2l, 1) := by decide +kernel
theorem dL_answer_6 : decode cL_answer 6 = .ok (.lreturn, 1) := by decide +kernel
theorem dL_answer_7 : decode cL_answer 7 = .ok (.astore_n 2, 1) := by decide +kernel
theorem dL_answer_8 : decode cL_answer 8 = .ok (.ldc2_w 33, 3) := by decide +kernel
theorem dL_answer_11 : decode cL_answer 11 = .ok (.lreturn, 1) := by decide +kernel
theorem dL_answer_12 : decode cL_answer 12 = .ok (.astore_n 2, 1) := by decide +kernel
theorem dL_answer_13 : decode cL_answer 13 = .ok (.ldc2_w 21, 3) := by decide +kernel
theorem dL_answer_16 : decode cL_answer 16 = .ok (.lreturn, 1) := by decide +kernel
theorem dL_motion_0 : decode cL_motion 0 = .ok (.aload_n 0, 1) := by decide +kernel
theorem dL_motion_1 : decode cL_motion 1 = .ok (.iload_n 1, 1) := by decide +kernel
theorem dL_motion_2 : decode cL_motion 2 = .ok (.invokevirtual 59, 3) := by decide +kernel
theorem dL_motion_5 : decode cL_motion 5 = .ok (.i2l, 1) := by decide +kernel
theorem dL_motion_6 : decode cL_motion 6 = .ok (.lreturn, 1) := by decide +kernel
theorem dL_motion_7 : decode cL_motion 7 = .ok (.astore_n 2, 1) := by decide +kernel
theorem dL_motion_8 : decode cL_motion 8 = .ok (.ldc2_w 33, 3) := by decide +kernel
theorem dL_motion_11 : decode cL_motion 11 = .ok (.lreturn, 1) := by decide +kernel
theorem dL_motion_12 : decode cL_motion 12 = .ok (.astore_n 2, 1) := by decide +kernel
theorem dL_motion_13 : decode cL_motion 13 = .ok (.ldc2_w 21, 3) := by decide +kernel
theorem dL_motion_16 : decode cL_motion 16 = .ok (.lreturn, 1) := by decide +kernel
theorem dL_respond_0 : decode cL_respond 0 = .ok (.aload_n 0, 1) := by decide +kernel
theorem dL_respond_1 : decode cL_respond 1 = .ok (.iload_n 1, 1) := by decide +kernel
theorem dL_respond_2 : decode cL_respond 2 = .ok (.invokevirtual 62, 3) := by decide +kernel
theorem dL_respond_5 : decode cL_respond 5 = .ok (.i2l, 1) := by decide +kernel
theorem dL_respond_6 : decode cL_respond 6 = .ok (.lreturn, 1) := by decide +kernel
theorem dL_respond_7 : decode cL_respond 7 = .ok (.astore_n 2, 1) := by decide +kernel
theorem dL_respond_8 : decode cL_respond 8 = .ok (.ldc2_w 33, 3) := by decide +kernel
theorem dL_respond_11 : decode cL_respond 11 = .ok (.lreturn, 1) := by decide +kernel
theorem dL_respond_12 : decode cL_respond 12 = .ok (.astore_n 2, 1) := by decide +kernel
theorem dL_respond_13 : decode cL_respond 13 = .ok (.ldc2_w 21, 3) := by decide +kernel
theorem dL_respond_16 : decode cL_respond 16 = .ok (.lreturn, 1) := by decide +kernel
theorem dL_ruling_0 : decode cL_ruling 0 = .ok (.aload_n 0, 1) := by decide +kernel
theorem dL_ruling_1 : decode cL_ruling 1 = .ok (.iload_n 1, 1) := by decide +kernel
theorem dL_ruling_2 : decode cL_ruling 2 = .ok (.iload_n 2, 1) := by decide +kernel
theorem dL_ruling_3 : decode cL_ruling 3 = .ok (.invokevirtual 65, 3) := by decide +kernel
theorem dL_ruling_6 : decode cL_ruling 6 = .ok (.i2l, 1) := by decide +kernel
theorem dL_ruling_7 : decode cL_ruling 7 = .ok (.lreturn, 1) := by decide +kernel
theorem dL_ruling_8 : decode cL_ruling 8 = .ok (.astore_n 3, 1) := by decide +kernel
theorem dL_ruling_9 : decode cL_ruling 9 = .ok (.ldc2_w 33, 3) := by decide +kernel
theorem dL_ruling_12 : decode cL_ruling 12 = .ok (.lreturn, 1) := by decide +kernel
theorem dL_ruling_13 : decode cL_ruling 13 = .ok (.astore_n 3, 1) := by decide +kernel
theorem dL_ruling_14 : decode cL_ruling 14 = .ok (.ldc2_w 17, 3) := by decide +kernel
theorem dL_ruling_17 : decode cL_ruling 17 = .ok (.lreturn, 1) := by decide +kernel
theorem dL_ruling_18 : decode cL_ruling 18 = .ok (.astore_n 3, 1) := by decide +kernel
theorem dL_ruling_19 : decode cL_ruling 19 = .ok (.ldc2_w 21, 3) := by decide +kernel
theorem dL_ruling_22 : decode cL_ruling 22 = .ok (.lreturn, 1) := by decide +kernel
theorem dL_judge_0 : decode cL_judge 0 = .ok (.aload_n 0, 1) := by decide +kernel
theorem dL_judge_1 : decode cL_judge 1 = .ok (.iload_n 1, 1) := by decide +kernel
theorem dL_judge_2 : decode cL_judge 2 = .ok (.iload_n 2, 1) := by decide +kernel
theorem dL_judge_3 : decode cL_judge 3 = .ok (.invokevirtual 68, 3) := by decide +kernel
theorem dL_judge_6 : decode cL_judge 6 = .ok (.i2l, 1) := by decide +kernel
theorem dL_judge_7 : decode cL_judge 7 = .ok (.lreturn, 1) := by decide +kernel
theorem dL_judge_8 : decode cL_judge 8 = .ok (.astore_n 3, 1) := by decide +kernel
theorem dL_judge_9 : decode cL_judge 9 = .ok (.ldc2_w 33, 3) := by decide +kernel
theorem dL_judge_12 : decode cL_judge 12 = .ok (.lreturn, 1) := by decide +kernel
theorem dL_judge_13 : decode cL_judge 13 = .ok (.astore_n 3, 1) := by decide +kernel
theorem dL_judge_14 : decode cL_judge 14 = .ok (.ldc2_w 17, 3) := by decide +kernel
theorem dL_judge_17 : decode cL_judge 17 = .ok (.lreturn, 1) := by decide +kernel
theorem dL_judge_18 : decode cL_judge 18 = .ok (.astore_n 3, 1) := by decide +kernel
theorem dL_judge_19 : decode cL_judge 19 = .ok (.ldc2_w 21, 3) := by decide +kernel
theorem dL_judge_22 : decode cL_judge 22 = .ok (.lreturn, 1) := by decide +kernel
theorem dL_vacate_0 : decode cL_vacate 0 = .ok (.aload_n 0, 1) := by decide +kernel
theorem dL_vacate_1 : decode cL_vacate 1 = .ok (.iload_n 1, 1) := by decide +kernel
theorem dL_vacate_2 : decode cL_vacate 2 = .ok (.invokevirtual 71, 3) := by decide +kernel
theorem dL_vacate_5 : decode cL_vacate 5 = .ok (.i2l, 1) := by decide +kernel
theorem dL_vacate_6 : decode cL_vacate 6 = .ok (.lreturn, 1) := by decide +kernel
theorem dL_vacate_7 : decode cL_vacate 7 = .ok (.astore_n 2, 1) := by decide +kernel
theorem dL_vacate_8 : decode cL_vacate 8 = .ok (.ldc2_w 33, 3) := by decide +kernel
theorem dL_vacate_11 : decode cL_vacate 11 = .ok (.lreturn, 1) := by decide +kernel
theorem dL_vacate_12 : decode cL_vacate 12 = .ok (.astore_n 2, 1) := by decide +kernel
theorem dL_vacate_13 : decode cL_vacate 13 = .ok (.ldc2_w 21, 3) := by decide +kernel
theorem dL_vacate_16 : decode cL_vacate 16 = .ok (.lreturn, 1) := by decide +kernel
theorem dL_appeal_0 : decode cL_appeal 0 = .ok (.aload_n 0, 1) := by decide +kernel
theorem dL_appeal_1 : decode cL_appeal 1 = .ok (.iload_n 1, 1) := by decide +kernel
theorem dL_appeal_2 : decode cL_appeal 2 = .ok (.invokevirtual 74, 3) := by decide +kernel
theorem dL_appeal_5 : decode cL_appeal 5 = .ok (.i2l, 1) := by decide +kernel
theorem dL_appeal_6 : decode cL_appeal 6 = .ok (.lreturn, 1) := by decide +kernel
theorem dL_appeal_7 : decode cL_appeal 7 = .ok (.astore_n 2, 1) := by decide +kernel
theorem dL_appeal_8 : decode cL_appeal 8 = .ok (.ldc2_w 33, 3) := by decide +kernel
theorem dL_appeal_11 : decode cL_appeal 11 = .ok (.lreturn, 1) := by decide +kernel
theorem dL_appeal_12 : decode cL_appeal 12 = .ok (.astore_n 2, 1) := by decide +kernel
theorem dL_appeal_13 : decode cL_appeal 13 = .ok (.ldc2_w 21, 3) := by decide +kernel
theorem dL_appeal_16 : decode cL_appeal 16 = .ok (.lreturn, 1) := by decide +kernel
theorem dL_decide_0 : decode cL_decide 0 = .ok (.aload_n 0, 1) := by decide +kernel
theorem dL_decide_1 : decode cL_decide 1 = .ok (.iload_n 1, 1) := by decide +kernel
theorem dL_decide_2 : decode cL_decide 2 = .ok (.iload_n 2, 1) := by decide +kernel
theorem dL_decide_3 : decode cL_decide 3 = .ok (.iload_n 3, 1) := by decide +kernel
theorem dL_decide_4 : decode cL_decide 4 = .ok (.invokevirtual 77, 3) := by decide +kernel
theorem dL_decide_7 : decode cL_decide 7 = .ok (.i2l, 1) := by decide +kernel
theorem dL_decide_8 : decode cL_decide 8 = .ok (.lreturn, 1) := by decide +kernel
theorem dL_decide_9 : decode cL_decide 9 = .ok (.astore 4, 2) := by decide +kernel
theorem dL_decide_11 : decode cL_decide 11 = .ok (.ldc2_w 33, 3) := by decide +kernel
theorem dL_decide_14 : decode cL_decide 14 = .ok (.lreturn, 1) := by decide +kernel
theorem dL_decide_15 : decode cL_decide 15 = .ok (.astore 4, 2) := by decide +kernel
theorem dL_decide_17 : decode cL_decide 17 = .ok (.ldc2_w 17, 3) := by decide +kernel
theorem dL_decide_20 : decode cL_decide 20 = .ok (.lreturn, 1) := by decide +kernel
theorem dL_decide_21 : decode cL_decide 21 = .ok (.astore 4, 2) := by decide +kernel
theorem dL_decide_23 : decode cL_decide 23 = .ok (.ldc2_w 21, 3) := by decide +kernel
theorem dL_decide_26 : decode cL_decide 26 = .ok (.lreturn, 1) := by decide +kernel
theorem dL_settle_0 : decode cL_settle 0 = .ok (.aload_n 0, 1) := by decide +kernel
theorem dL_settle_1 : decode cL_settle 1 = .ok (.iload_n 1, 1) := by decide +kernel
theorem dL_settle_2 : decode cL_settle 2 = .ok (.invokevirtual 80, 3) := by decide +kernel
theorem dL_settle_5 : decode cL_settle 5 = .ok (.i2l, 1) := by decide +kernel
theorem dL_settle_6 : decode cL_settle 6 = .ok (.lreturn, 1) := by decide +kernel
theorem dL_settle_7 : decode cL_settle 7 = .ok (.astore_n 2, 1) := by decide +kernel
theorem dL_settle_8 : decode cL_settle 8 = .ok (.ldc2_w 33, 3) := by decide +kernel
theorem dL_settle_11 : decode cL_settle 11 = .ok (.lreturn, 1) := by decide +kernel
theorem dL_settle_12 : decode cL_settle 12 = .ok (.astore_n 2, 1) := by decide +kernel
theorem dL_settle_13 : decode cL_settle 13 = .ok (.ldc2_w 21, 3) := by decide +kernel
theorem dL_settle_16 : decode cL_settle 16 = .ok (.lreturn, 1) := by decide +kernel
theorem dL_pay_0 : decode cL_pay 0 = .ok (.aload_n 0, 1) := by decide +kernel
theorem dL_pay_1 : decode cL_pay 1 = .ok (.iload_n 1, 1) := by decide +kernel
theorem dL_pay_2 : decode cL_pay 2 = .ok (.iload_n 2, 1) := by decide +kernel
theorem dL_pay_3 : decode cL_pay 3 = .ok (.invokevirtual 83, 3) := by decide +kernel
theorem dL_pay_6 : decode cL_pay 6 = .ok (.i2l, 1) := by decide +kernel
theorem dL_pay_7 : decode cL_pay 7 = .ok (.lreturn, 1) := by decide +kernel
theorem dL_pay_8 : decode cL_pay 8 = .ok (.astore_n 3, 1) := by decide +kernel
theorem dL_pay_9 : decode cL_pay 9 = .ok (.ldc2_w 33, 3) := by decide +kernel
theorem dL_pay_12 : decode cL_pay 12 = .ok (.lreturn, 1) := by decide +kernel
theorem dL_pay_13 : decode cL_pay 13 = .ok (.astore_n 3, 1) := by decide +kernel
theorem dL_pay_14 : decode cL_pay 14 = .ok (.ldc2_w 17, 3) := by decide +kernel
theorem dL_pay_17 : decode cL_pay 17 = .ok (.lreturn, 1) := by decide +kernel
theorem dL_pay_18 : decode cL_pay 18 = .ok (.astore_n 3, 1) := by decide +kernel
theorem dL_pay_19 : decode cL_pay 19 = .ok (.ldc2_w 21, 3) := by decide +kernel
theorem dL_pay_22 : decode cL_pay 22 = .ok (.lreturn, 1) := by decide +kernel
theorem dL_stay_0 : decode cL_stay 0 = .ok (.aload_n 0, 1) := by decide +kernel
theorem dL_stay_1 : decode cL_stay 1 = .ok (.iload_n 1, 1) := by decide +kernel
theorem dL_stay_2 : decode cL_stay 2 = .ok (.iload_n 2, 1) := by decide +kernel
theorem dL_stay_3 : decode cL_stay 3 = .ok (.invokevirtual 86, 3) := by decide +kernel
theorem dL_stay_6 : decode cL_stay 6 = .ok (.i2l, 1) := by decide +kernel
theorem dL_stay_7 : decode cL_stay 7 = .ok (.lreturn, 1) := by decide +kernel
theorem dL_stay_8 : decode cL_stay 8 = .ok (.astore_n 3, 1) := by decide +kernel
theorem dL_stay_9 : decode cL_stay 9 = .ok (.ldc2_w 33, 3) := by decide +kernel
theorem dL_stay_12 : decode cL_stay 12 = .ok (.lreturn, 1) := by decide +kernel
theorem dL_stay_13 : decode cL_stay 13 = .ok (.astore_n 3, 1) := by decide +kernel
theorem dL_stay_14 : decode cL_stay 14 = .ok (.ldc2_w 21, 3) := by decide +kernel
theorem dL_stay_17 : decode cL_stay 17 = .ok (.lreturn, 1) := by decide +kernel
theorem dL_defect_0 : decode cL_defect 0 = .ok (.aload_n 0, 1) := by decide +kernel
theorem dL_defect_1 : decode cL_defect 1 = .ok (.iload_n 1, 1) := by decide +kernel
theorem dL_defect_2 : decode cL_defect 2 = .ok (.invokevirtual 90, 3) := by decide +kernel
theorem dL_defect_5 : decode cL_defect 5 = .ok (.i2l, 1) := by decide +kernel
theorem dL_defect_6 : decode cL_defect 6 = .ok (.lreturn, 1) := by decide +kernel
theorem dL_defect_7 : decode cL_defect 7 = .ok (.astore_n 2, 1) := by decide +kernel
theorem dL_defect_8 : decode cL_defect 8 = .ok (.ldc2_w 33, 3) := by decide +kernel
theorem dL_defect_11 : decode cL_defect 11 = .ok (.lreturn, 1) := by decide +kernel
theorem dL_defect_12 : decode cL_defect 12 = .ok (.astore_n 2, 1) := by decide +kernel
theorem dL_defect_13 : decode cL_defect 13 = .ok (.ldc2_w 21, 3) := by decide +kernel
theorem dL_defect_16 : decode cL_defect 16 = .ok (.lreturn, 1) := by decide +kernel
theorem dL_cure_0 : decode cL_cure 0 = .ok (.aload_n 0, 1) := by decide +kernel
theorem dL_cure_1 : decode cL_cure 1 = .ok (.iload_n 1, 1) := by decide +kernel
theorem dL_cure_2 : decode cL_cure 2 = .ok (.invokevirtual 93, 3) := by decide +kernel
theorem dL_cure_5 : decode cL_cure 5 = .ok (.ifCond .eq 7, 3) := by decide +kernel
theorem dL_cure_8 : decode cL_cure 8 = .ok (.lconst 1, 1) := by decide +kernel
theorem dL_cure_9 : decode cL_cure 9 = .ok (.goto 4, 3) := by decide +kernel
theorem dL_cure_12 : decode cL_cure 12 = .ok (.lconst 0, 1) := by decide +kernel
theorem dL_cure_13 : decode cL_cure 13 = .ok (.lreturn, 1) := by decide +kernel
theorem dL_cure_14 : decode cL_cure 14 = .ok (.astore_n 2, 1) := by decide +kernel
theorem dL_cure_15 : decode cL_cure 15 = .ok (.ldc2_w 33, 3) := by decide +kernel
theorem dL_cure_18 : decode cL_cure 18 = .ok (.lreturn, 1) := by decide +kernel
theorem dL_cure_19 : decode cL_cure 19 = .ok (.astore_n 2, 1) := by decide +kernel
theorem dL_cure_20 : decode cL_cure 20 = .ok (.ldc2_w 21, 3) := by decide +kernel
theorem dL_cure_23 : decode cL_cure 23 = .ok (.lreturn, 1) := by decide +kernel
theorem dL_extend_0 : decode cL_extend 0 = .ok (.aload_n 0, 1) := by decide +kernel
theorem dL_extend_1 : decode cL_extend 1 = .ok (.iload_n 1, 1) := by decide +kernel
theorem dL_extend_2 : decode cL_extend 2 = .ok (.iload_n 2, 1) := by decide +kernel
theorem dL_extend_3 : decode cL_extend 3 = .ok (.iload_n 3, 1) := by decide +kernel
theorem dL_extend_4 : decode cL_extend 4 = .ok (.invokevirtual 96, 3) := by decide +kernel
theorem dL_extend_7 : decode cL_extend 7 = .ok (.i2l, 1) := by decide +kernel
theorem dL_extend_8 : decode cL_extend 8 = .ok (.lreturn, 1) := by decide +kernel
theorem dL_extend_9 : decode cL_extend 9 = .ok (.astore 4, 2) := by decide +kernel
theorem dL_extend_11 : decode cL_extend 11 = .ok (.ldc2_w 33, 3) := by decide +kernel
theorem dL_extend_14 : decode cL_extend 14 = .ok (.lreturn, 1) := by decide +kernel
theorem dL_extend_15 : decode cL_extend 15 = .ok (.astore 4, 2) := by decide +kernel
theorem dL_extend_17 : decode cL_extend 17 = .ok (.ldc2_w 17, 3) := by decide +kernel
theorem dL_extend_20 : decode cL_extend 20 = .ok (.lreturn, 1) := by decide +kernel
theorem dL_extend_21 : decode cL_extend 21 = .ok (.astore 4, 2) := by decide +kernel
theorem dL_extend_23 : decode cL_extend 23 = .ok (.ldc2_w 21, 3) := by decide +kernel
theorem dL_extend_26 : decode cL_extend 26 = .ok (.lreturn, 1) := by decide +kernel
theorem dL_hearing_0 : decode cL_hearing 0 = .ok (.aload_n 0, 1) := by decide +kernel
theorem dL_hearing_1 : decode cL_hearing 1 = .ok (.iload_n 1, 1) := by decide +kernel
theorem dL_hearing_2 : decode cL_hearing 2 = .ok (.iload_n 2, 1) := by decide +kernel
theorem dL_hearing_3 : decode cL_hearing 3 = .ok (.iload_n 3, 1) := by decide +kernel
theorem dL_hearing_4 : decode cL_hearing 4 = .ok (.invokevirtual 99, 3) := by decide +kernel
theorem dL_hearing_7 : decode cL_hearing 7 = .ok (.i2l, 1) := by decide +kernel
theorem dL_hearing_8 : decode cL_hearing 8 = .ok (.lreturn, 1) := by decide +kernel
theorem dL_hearing_9 : decode cL_hearing 9 = .ok (.astore 4, 2) := by decide +kernel
theorem dL_hearing_11 : decode cL_hearing 11 = .ok (.ldc2_w 33, 3) := by decide +kernel
theorem dL_hearing_14 : decode cL_hearing 14 = .ok (.lreturn, 1) := by decide +kernel
theorem dL_hearing_15 : decode cL_hearing 15 = .ok (.astore 4, 2) := by decide +kernel
theorem dL_hearing_17 : decode cL_hearing 17 = .ok (.ldc2_w 17, 3) := by decide +kernel
theorem dL_hearing_20 : decode cL_hearing 20 = .ok (.lreturn, 1) := by decide +kernel
theorem dL_hearing_21 : decode cL_hearing 21 = .ok (.astore 4, 2) := by decide +kernel
theorem dL_hearing_23 : decode cL_hearing 23 = .ok (.ldc2_w 21, 3) := by decide +kernel
theorem dL_hearing_26 : decode cL_hearing 26 = .ok (.lreturn, 1) := by decide +kernel
theorem dL_goesOn_0 : decode cL_goesOn 0 = .ok (.aload_n 0, 1) := by decide +kernel
theorem dL_goesOn_1 : decode cL_goesOn 1 = .ok (.iload_n 1, 1) := by decide +kernel
theorem dL_goesOn_2 : decode cL_goesOn 2 = .ok (.invokevirtual 102, 3) := by decide +kernel
theorem dL_goesOn_5 : decode cL_goesOn 5 = .ok (.i2l, 1) := by decide +kernel
theorem dL_goesOn_6 : decode cL_goesOn 6 = .ok (.lreturn, 1) := by decide +kernel
theorem dL_goesOn_7 : decode cL_goesOn 7 = .ok (.astore_n 2, 1) := by decide +kernel
theorem dL_goesOn_8 : decode cL_goesOn 8 = .ok (.ldc2_w 33, 3) := by decide +kernel
theorem dL_goesOn_11 : decode cL_goesOn 11 = .ok (.lreturn, 1) := by decide +kernel
theorem dL_goesOn_12 : decode cL_goesOn 12 = .ok (.astore_n 2, 1) := by decide +kernel
theorem dL_goesOn_13 : decode cL_goesOn 13 = .ok (.ldc2_w 21, 3) := by decide +kernel
theorem dL_goesOn_16 : decode cL_goesOn 16 = .ok (.lreturn, 1) := by decide +kernel
theorem dL_hearingAt_0 : decode cL_hearingAt 0 = .ok (.aload_n 0, 1) := by decide +kernel
theorem dL_hearingAt_1 : decode cL_hearingAt 1 = .ok (.iload_n 1, 1) := by decide +kernel
theorem dL_hearingAt_2 : decode cL_hearingAt 2 = .ok (.invokevirtual 105, 3) := by decide +kernel
theorem dL_hearingAt_5 : decode cL_hearingAt 5 = .ok (.i2l, 1) := by decide +kernel
theorem dL_hearingAt_6 : decode cL_hearingAt 6 = .ok (.lreturn, 1) := by decide +kernel
theorem dL_hearingAt_7 : decode cL_hearingAt 7 = .ok (.astore_n 2, 1) := by decide +kernel
theorem dL_hearingAt_8 : decode cL_hearingAt 8 = .ok (.ldc2_w 33, 3) := by decide +kernel
theorem dL_hearingAt_11 : decode cL_hearingAt 11 = .ok (.lreturn, 1) := by decide +kernel
theorem dL_strike_0 : decode cL_strike 0 = .ok (.aload_n 0, 1) := by decide +kernel
theorem dL_strike_1 : decode cL_strike 1 = .ok (.iload_n 1, 1) := by decide +kernel
theorem dL_strike_2 : decode cL_strike 2 = .ok (.iload_n 2, 1) := by decide +kernel
theorem dL_strike_3 : decode cL_strike 3 = .ok (.iload_n 3, 1) := by decide +kernel
theorem dL_strike_4 : decode cL_strike 4 = .ok (.invokevirtual 108, 3) := by decide +kernel
theorem dL_strike_7 : decode cL_strike 7 = .ok (.i2l, 1) := by decide +kernel
theorem dL_strike_8 : decode cL_strike 8 = .ok (.lreturn, 1) := by decide +kernel
theorem dL_strike_9 : decode cL_strike 9 = .ok (.astore 4, 2) := by decide +kernel
theorem dL_strike_11 : decode cL_strike 11 = .ok (.ldc2_w 33, 3) := by decide +kernel
theorem dL_strike_14 : decode cL_strike 14 = .ok (.lreturn, 1) := by decide +kernel
theorem dL_strike_15 : decode cL_strike 15 = .ok (.astore 4, 2) := by decide +kernel
theorem dL_strike_17 : decode cL_strike 17 = .ok (.ldc2_w 21, 3) := by decide +kernel
theorem dL_strike_20 : decode cL_strike 20 = .ok (.lreturn, 1) := by decide +kernel
theorem dL_dismiss_0 : decode cL_dismiss 0 = .ok (.aload_n 0, 1) := by decide +kernel
theorem dL_dismiss_1 : decode cL_dismiss 1 = .ok (.iload_n 1, 1) := by decide +kernel
theorem dL_dismiss_2 : decode cL_dismiss 2 = .ok (.iload_n 2, 1) := by decide +kernel
theorem dL_dismiss_3 : decode cL_dismiss 3 = .ok (.invokevirtual 111, 3) := by decide +kernel
theorem dL_dismiss_6 : decode cL_dismiss 6 = .ok (.i2l, 1) := by decide +kernel
theorem dL_dismiss_7 : decode cL_dismiss 7 = .ok (.lreturn, 1) := by decide +kernel
theorem dL_dismiss_8 : decode cL_dismiss 8 = .ok (.astore_n 3, 1) := by decide +kernel
theorem dL_dismiss_9 : decode cL_dismiss 9 = .ok (.ldc2_w 33, 3) := by decide +kernel
theorem dL_dismiss_12 : decode cL_dismiss 12 = .ok (.lreturn, 1) := by decide +kernel
theorem dL_dismiss_13 : decode cL_dismiss 13 = .ok (.astore_n 3, 1) := by decide +kernel
theorem dL_dismiss_14 : decode cL_dismiss 14 = .ok (.ldc2_w 21, 3) := by decide +kernel
theorem dL_dismiss_17 : decode cL_dismiss 17 = .ok (.lreturn, 1) := by decide +kernel
theorem dL_seat_0 : decode cL_seat 0 = .ok (.aload_n 0, 1) := by decide +kernel
theorem dL_seat_1 : decode cL_seat 1 = .ok (.iload_n 1, 1) := by decide +kernel
theorem dL_seat_2 : decode cL_seat 2 = .ok (.iload_n 2, 1) := by decide +kernel
theorem dL_seat_3 : decode cL_seat 3 = .ok (.invokevirtual 114, 3) := by decide +kernel
theorem dL_seat_6 : decode cL_seat 6 = .ok (.i2l, 1) := by decide +kernel
theorem dL_seat_7 : decode cL_seat 7 = .ok (.lreturn, 1) := by decide +kernel
theorem dL_seat_8 : decode cL_seat 8 = .ok (.astore_n 3, 1) := by decide +kernel
theorem dL_seat_9 : decode cL_seat 9 = .ok (.ldc2_w 33, 3) := by decide +kernel
theorem dL_seat_12 : decode cL_seat 12 = .ok (.lreturn, 1) := by decide +kernel
theorem dL_exhibit_0 : decode cL_exhibit 0 = .ok (.aload_n 0, 1) := by decide +kernel
theorem dL_exhibit_1 : decode cL_exhibit 1 = .ok (.iload_n 1, 1) := by decide +kernel
theorem dL_exhibit_2 : decode cL_exhibit 2 = .ok (.iload_n 2, 1) := by decide +kernel
theorem dL_exhibit_3 : decode cL_exhibit 3 = .ok (.invokevirtual 117, 3) := by decide +kernel
theorem dL_exhibit_6 : decode cL_exhibit 6 = .ok (.i2l, 1) := by decide +kernel
theorem dL_exhibit_7 : decode cL_exhibit 7 = .ok (.lreturn, 1) := by decide +kernel
theorem dL_exhibit_8 : decode cL_exhibit 8 = .ok (.astore_n 3, 1) := by decide +kernel
theorem dL_exhibit_9 : decode cL_exhibit 9 = .ok (.ldc2_w 33, 3) := by decide +kernel
theorem dL_exhibit_12 : decode cL_exhibit 12 = .ok (.lreturn, 1) := by decide +kernel
theorem dL_exhibit_13 : decode cL_exhibit 13 = .ok (.astore_n 3, 1) := by decide +kernel
theorem dL_exhibit_14 : decode cL_exhibit 14 = .ok (.ldc2_w 21, 3) := by decide +kernel
theorem dL_exhibit_17 : decode cL_exhibit 17 = .ok (.lreturn, 1) := by decide +kernel
theorem dL_hand_0 : decode cL_hand 0 = .ok (.aload_n 0, 1) := by decide +kernel
theorem dL_hand_1 : decode cL_hand 1 = .ok (.iload_n 1, 1) := by decide +kernel
theorem dL_hand_2 : decode cL_hand 2 = .ok (.iload_n 2, 1) := by decide +kernel
theorem dL_hand_3 : decode cL_hand 3 = .ok (.iload_n 3, 1) := by decide +kernel
theorem dL_hand_4 : decode cL_hand 4 = .ok (.invokevirtual 120, 3) := by decide +kernel
theorem dL_hand_7 : decode cL_hand 7 = .ok (.ifCond .eq 7, 3) := by decide +kernel
theorem dL_hand_10 : decode cL_hand 10 = .ok (.lconst 1, 1) := by decide +kernel
theorem dL_hand_11 : decode cL_hand 11 = .ok (.goto 4, 3) := by decide +kernel
theorem dL_hand_14 : decode cL_hand 14 = .ok (.lconst 0, 1) := by decide +kernel
theorem dL_hand_15 : decode cL_hand 15 = .ok (.lreturn, 1) := by decide +kernel
theorem dL_hand_16 : decode cL_hand 16 = .ok (.astore 4, 2) := by decide +kernel
theorem dL_hand_18 : decode cL_hand 18 = .ok (.ldc2_w 33, 3) := by decide +kernel
theorem dL_hand_21 : decode cL_hand 21 = .ok (.lreturn, 1) := by decide +kernel
theorem dL_object_0 : decode cL_object 0 = .ok (.aload_n 0, 1) := by decide +kernel
theorem dL_object_1 : decode cL_object 1 = .ok (.iload_n 1, 1) := by decide +kernel
theorem dL_object_2 : decode cL_object 2 = .ok (.iload_n 2, 1) := by decide +kernel
theorem dL_object_3 : decode cL_object 3 = .ok (.invokevirtual 124, 3) := by decide +kernel
theorem dL_object_6 : decode cL_object 6 = .ok (.lconst 0, 1) := by decide +kernel
theorem dL_object_7 : decode cL_object 7 = .ok (.lreturn, 1) := by decide +kernel
theorem dL_object_8 : decode cL_object 8 = .ok (.astore_n 3, 1) := by decide +kernel
theorem dL_object_9 : decode cL_object 9 = .ok (.ldc2_w 33, 3) := by decide +kernel
theorem dL_object_12 : decode cL_object 12 = .ok (.lreturn, 1) := by decide +kernel
theorem dL_object_13 : decode cL_object 13 = .ok (.astore_n 3, 1) := by decide +kernel
theorem dL_object_14 : decode cL_object 14 = .ok (.ldc2_w 21, 3) := by decide +kernel
theorem dL_object_17 : decode cL_object 17 = .ok (.lreturn, 1) := by decide +kernel
theorem dL_sustain_0 : decode cL_sustain 0 = .ok (.aload_n 0, 1) := by decide +kernel
theorem dL_sustain_1 : decode cL_sustain 1 = .ok (.iload_n 1, 1) := by decide +kernel
theorem dL_sustain_2 : decode cL_sustain 2 = .ok (.iload_n 2, 1) := by decide +kernel
theorem dL_sustain_3 : decode cL_sustain 3 = .ok (.iload_n 3, 1) := by decide +kernel
theorem dL_sustain_4 : decode cL_sustain 4 = .ok (.invokevirtual 128, 3) := by decide +kernel
theorem dL_sustain_7 : decode cL_sustain 7 = .ok (.lconst 0, 1) := by decide +kernel
theorem dL_sustain_8 : decode cL_sustain 8 = .ok (.lreturn, 1) := by decide +kernel
theorem dL_sustain_9 : decode cL_sustain 9 = .ok (.astore 4, 2) := by decide +kernel
theorem dL_sustain_11 : decode cL_sustain 11 = .ok (.ldc2_w 33, 3) := by decide +kernel
theorem dL_sustain_14 : decode cL_sustain 14 = .ok (.lreturn, 1) := by decide +kernel
theorem dL_sustain_15 : decode cL_sustain 15 = .ok (.astore 4, 2) := by decide +kernel
theorem dL_sustain_17 : decode cL_sustain 17 = .ok (.ldc2_w 21, 3) := by decide +kernel
theorem dL_sustain_20 : decode cL_sustain 20 = .ok (.lreturn, 1) := by decide +kernel
theorem dL_admitted_0 : decode cL_admitted 0 = .ok (.aload_n 0, 1) := by decide +kernel
theorem dL_admitted_1 : decode cL_admitted 1 = .ok (.iload_n 1, 1) := by decide +kernel
theorem dL_admitted_2 : decode cL_admitted 2 = .ok (.invokevirtual 132, 3) := by decide +kernel
theorem dL_admitted_5 : decode cL_admitted 5 = .ok (.ifCond .eq 7, 3) := by decide +kernel
theorem dL_admitted_8 : decode cL_admitted 8 = .ok (.lconst 1, 1) := by decide +kernel
theorem dL_admitted_9 : decode cL_admitted 9 = .ok (.goto 4, 3) := by decide +kernel
theorem dL_admitted_12 : decode cL_admitted 12 = .ok (.lconst 0, 1) := by decide +kernel
theorem dL_admitted_13 : decode cL_admitted 13 = .ok (.lreturn, 1) := by decide +kernel
theorem dL_admitted_14 : decode cL_admitted 14 = .ok (.astore_n 2, 1) := by decide +kernel
theorem dL_admitted_15 : decode cL_admitted 15 = .ok (.ldc2_w 33, 3) := by decide +kernel
theorem dL_admitted_18 : decode cL_admitted 18 = .ok (.lreturn, 1) := by decide +kernel
theorem dL_seal_0 : decode cL_seal 0 = .ok (.aload_n 0, 1) := by decide +kernel
theorem dL_seal_1 : decode cL_seal 1 = .ok (.iload_n 1, 1) := by decide +kernel
theorem dL_seal_2 : decode cL_seal 2 = .ok (.iload_n 2, 1) := by decide +kernel
theorem dL_seal_3 : decode cL_seal 3 = .ok (.invokevirtual 135, 3) := by decide +kernel
theorem dL_seal_6 : decode cL_seal 6 = .ok (.ifCond .eq 7, 3) := by decide +kernel
theorem dL_seal_9 : decode cL_seal 9 = .ok (.lconst 1, 1) := by decide +kernel
theorem dL_seal_10 : decode cL_seal 10 = .ok (.goto 4, 3) := by decide +kernel
theorem dL_seal_13 : decode cL_seal 13 = .ok (.lconst 0, 1) := by decide +kernel
theorem dL_seal_14 : decode cL_seal 14 = .ok (.lreturn, 1) := by decide +kernel
theorem dL_seal_15 : decode cL_seal 15 = .ok (.astore_n 3, 1) := by decide +kernel
theorem dL_seal_16 : decode cL_seal 16 = .ok (.ldc2_w 33, 3) := by decide +kernel
theorem dL_seal_19 : decode cL_seal 19 = .ok (.lreturn, 1) := by decide +kernel
theorem dL_maySee_0 : decode cL_maySee 0 = .ok (.aload_n 0, 1) := by decide +kernel
theorem dL_maySee_1 : decode cL_maySee 1 = .ok (.iload_n 1, 1) := by decide +kernel
theorem dL_maySee_2 : decode cL_maySee 2 = .ok (.iload_n 2, 1) := by decide +kernel
theorem dL_maySee_3 : decode cL_maySee 3 = .ok (.iload_n 3, 1) := by decide +kernel
theorem dL_maySee_4 : decode cL_maySee 4 = .ok (.invokevirtual 139, 3) := by decide +kernel
theorem dL_maySee_7 : decode cL_maySee 7 = .ok (.ifCond .eq 7, 3) := by decide +kernel
theorem dL_maySee_10 : decode cL_maySee 10 = .ok (.lconst 1, 1) := by decide +kernel
theorem dL_maySee_11 : decode cL_maySee 11 = .ok (.goto 4, 3) := by decide +kernel
theorem dL_maySee_14 : decode cL_maySee 14 = .ok (.lconst 0, 1) := by decide +kernel
theorem dL_maySee_15 : decode cL_maySee 15 = .ok (.lreturn, 1) := by decide +kernel
theorem dL_maySee_16 : decode cL_maySee 16 = .ok (.astore 4, 2) := by decide +kernel
theorem dL_maySee_18 : decode cL_maySee 18 = .ok (.ldc2_w 33, 3) := by decide +kernel
theorem dL_maySee_21 : decode cL_maySee 21 = .ok (.lreturn, 1) := by decide +kernel
theorem dL_maySee_22 : decode cL_maySee 22 = .ok (.astore 4, 2) := by decide +kernel
theorem dL_maySee_24 : decode cL_maySee 24 = .ok (.ldc2_w 17, 3) := by decide +kernel
theorem dL_maySee_27 : decode cL_maySee 27 = .ok (.lreturn, 1) := by decide +kernel
theorem dL_certify_0 : decode cL_certify 0 = .ok (.aload_n 0, 1) := by decide +kernel
theorem dL_certify_1 : decode cL_certify 1 = .ok (.iload_n 1, 1) := by decide +kernel
theorem dL_certify_2 : decode cL_certify 2 = .ok (.invokevirtual 142, 3) := by decide +kernel
theorem dL_certify_5 : decode cL_certify 5 = .ok (.lconst 0, 1) := by decide +kernel
theorem dL_certify_6 : decode cL_certify 6 = .ok (.lreturn, 1) := by decide +kernel
theorem dL_certify_7 : decode cL_certify 7 = .ok (.astore_n 2, 1) := by decide +kernel
theorem dL_certify_8 : decode cL_certify 8 = .ok (.ldc2_w 33, 3) := by decide +kernel
theorem dL_certify_11 : decode cL_certify 11 = .ok (.lreturn, 1) := by decide +kernel
theorem dL_certify_12 : decode cL_certify 12 = .ok (.astore_n 2, 1) := by decide +kernel
theorem dL_certify_13 : decode cL_certify 13 = .ok (.ldc2_w 21, 3) := by decide +kernel
theorem dL_certify_16 : decode cL_certify 16 = .ok (.lreturn, 1) := by decide +kernel
theorem dL_member_0 : decode cL_member 0 = .ok (.aload_n 0, 1) := by decide +kernel
theorem dL_member_1 : decode cL_member 1 = .ok (.iload_n 1, 1) := by decide +kernel
theorem dL_member_2 : decode cL_member 2 = .ok (.iload_n 2, 1) := by decide +kernel
theorem dL_member_3 : decode cL_member 3 = .ok (.iload_n 3, 1) := by decide +kernel
theorem dL_member_4 : decode cL_member 4 = .ok (.invokevirtual 146, 3) := by decide +kernel
theorem dL_member_7 : decode cL_member 7 = .ok (.i2l, 1) := by decide +kernel
theorem dL_member_8 : decode cL_member 8 = .ok (.lreturn, 1) := by decide +kernel
theorem dL_member_9 : decode cL_member 9 = .ok (.astore 4, 2) := by decide +kernel
theorem dL_member_11 : decode cL_member 11 = .ok (.ldc2_w 33, 3) := by decide +kernel
theorem dL_member_14 : decode cL_member 14 = .ok (.lreturn, 1) := by decide +kernel
theorem dL_member_15 : decode cL_member 15 = .ok (.astore 4, 2) := by decide +kernel
theorem dL_member_17 : decode cL_member 17 = .ok (.ldc2_w 21, 3) := by decide +kernel
theorem dL_member_20 : decode cL_member 20 = .ok (.lreturn, 1) := by decide +kernel
theorem dL_share_0 : decode cL_share 0 = .ok (.aload_n 0, 1) := by decide +kernel
theorem dL_share_1 : decode cL_share 1 = .ok (.iload_n 1, 1) := by decide +kernel
theorem dL_share_2 : decode cL_share 2 = .ok (.iload_n 2, 1) := by decide +kernel
theorem dL_share_3 : decode cL_share 3 = .ok (.invokevirtual 149, 3) := by decide +kernel
theorem dL_share_6 : decode cL_share 6 = .ok (.i2l, 1) := by decide +kernel
theorem dL_share_7 : decode cL_share 7 = .ok (.lreturn, 1) := by decide +kernel
theorem dL_share_8 : decode cL_share 8 = .ok (.astore_n 3, 1) := by decide +kernel
theorem dL_share_9 : decode cL_share 9 = .ok (.ldc2_w 33, 3) := by decide +kernel
theorem dL_share_12 : decode cL_share 12 = .ok (.lreturn, 1) := by decide +kernel
theorem dL_entryAt_0 : decode cL_entryAt 0 = .ok (.aload_n 0, 1) := by decide +kernel
theorem dL_entryAt_1 : decode cL_entryAt 1 = .ok (.iload_n 1, 1) := by decide +kernel
theorem dL_entryAt_2 : decode cL_entryAt 2 = .ok (.iload_n 2, 1) := by decide +kernel
theorem dL_entryAt_3 : decode cL_entryAt 3 = .ok (.invokevirtual 152, 3) := by decide +kernel
theorem dL_entryAt_6 : decode cL_entryAt 6 = .ok (.i2l, 1) := by decide +kernel
theorem dL_entryAt_7 : decode cL_entryAt 7 = .ok (.lreturn, 1) := by decide +kernel
theorem dL_entryAt_8 : decode cL_entryAt 8 = .ok (.astore_n 3, 1) := by decide +kernel
theorem dL_entryAt_9 : decode cL_entryAt 9 = .ok (.ldc2_w 33, 3) := by decide +kernel
theorem dL_entryAt_12 : decode cL_entryAt 12 = .ok (.lreturn, 1) := by decide +kernel
theorem dL_counts_0 : decode cL_counts 0 = .ok (.aload_n 0, 1) := by decide +kernel
theorem dL_counts_1 : decode cL_counts 1 = .ok (.iload_n 1, 1) := by decide +kernel
theorem dL_counts_2 : decode cL_counts 2 = .ok (.invokevirtual 155, 3) := by decide +kernel
theorem dL_counts_5 : decode cL_counts 5 = .ok (.ifCond .eq 7, 3) := by decide +kernel
theorem dL_counts_8 : decode cL_counts 8 = .ok (.lconst 1, 1) := by decide +kernel
theorem dL_counts_9 : decode cL_counts 9 = .ok (.goto 4, 3) := by decide +kernel
theorem dL_counts_12 : decode cL_counts 12 = .ok (.lconst 0, 1) := by decide +kernel
theorem dL_counts_13 : decode cL_counts 13 = .ok (.lreturn, 1) := by decide +kernel
theorem dL_counts_14 : decode cL_counts 14 = .ok (.astore_n 2, 1) := by decide +kernel
theorem dL_counts_15 : decode cL_counts 15 = .ok (.ldc2_w 33, 3) := by decide +kernel
theorem dL_counts_18 : decode cL_counts 18 = .ok (.lreturn, 1) := by decide +kernel
theorem dL_stateOf_0 : decode cL_stateOf 0 = .ok (.aload_n 0, 1) := by decide +kernel
theorem dL_stateOf_1 : decode cL_stateOf 1 = .ok (.iload_n 1, 1) := by decide +kernel
theorem dL_stateOf_2 : decode cL_stateOf 2 = .ok (.invokevirtual 158, 3) := by decide +kernel
theorem dL_stateOf_5 : decode cL_stateOf 5 = .ok (.i2l, 1) := by decide +kernel
theorem dL_stateOf_6 : decode cL_stateOf 6 = .ok (.lreturn, 1) := by decide +kernel
theorem dL_stateOf_7 : decode cL_stateOf 7 = .ok (.astore_n 2, 1) := by decide +kernel
theorem dL_stateOf_8 : decode cL_stateOf 8 = .ok (.ldc2_w 33, 3) := by decide +kernel
theorem dL_stateOf_11 : decode cL_stateOf 11 = .ok (.lreturn, 1) := by decide +kernel
theorem dL_stateByDocket_0 : decode cL_stateByDocket 0 = .ok (.aload_n 0, 1) := by decide +kernel
theorem dL_stateByDocket_1 : decode cL_stateByDocket 1 = .ok (.iload_n 1, 1) := by decide +kernel
theorem dL_stateByDocket_2 : decode cL_stateByDocket 2 = .ok (.invokevirtual 161, 3) := by decide +kernel
theorem dL_stateByDocket_5 : decode cL_stateByDocket 5 = .ok (.i2l, 1) := by decide +kernel
theorem dL_stateByDocket_6 : decode cL_stateByDocket 6 = .ok (.lreturn, 1) := by decide +kernel
theorem dL_stateByDocket_7 : decode cL_stateByDocket 7 = .ok (.astore_n 2, 1) := by decide +kernel
theorem dL_stateByDocket_8 : decode cL_stateByDocket 8 = .ok (.ldc2_w 33, 3) := by decide +kernel
theorem dL_stateByDocket_11 : decode cL_stateByDocket 11 = .ok (.lreturn, 1) := by decide +kernel
theorem dL_amountOf_0 : decode cL_amountOf 0 = .ok (.aload_n 0, 1) := by decide +kernel
theorem dL_amountOf_1 : decode cL_amountOf 1 = .ok (.iload_n 1, 1) := by decide +kernel
theorem dL_amountOf_2 : decode cL_amountOf 2 = .ok (.invokevirtual 164, 3) := by decide +kernel
theorem dL_amountOf_5 : decode cL_amountOf 5 = .ok (.i2l, 1) := by decide +kernel
theorem dL_amountOf_6 : decode cL_amountOf 6 = .ok (.lreturn, 1) := by decide +kernel
theorem dL_amountOf_7 : decode cL_amountOf 7 = .ok (.astore_n 2, 1) := by decide +kernel
theorem dL_amountOf_8 : decode cL_amountOf 8 = .ok (.ldc2_w 33, 3) := by decide +kernel
theorem dL_amountOf_11 : decode cL_amountOf 11 = .ok (.lreturn, 1) := by decide +kernel
theorem dL_balance_0 : decode cL_balance 0 = .ok (.aload_n 0, 1) := by decide +kernel
theorem dL_balance_1 : decode cL_balance 1 = .ok (.iload_n 1, 1) := by decide +kernel
theorem dL_balance_2 : decode cL_balance 2 = .ok (.invokevirtual 167, 3) := by decide +kernel
theorem dL_balance_5 : decode cL_balance 5 = .ok (.i2l, 1) := by decide +kernel
theorem dL_balance_6 : decode cL_balance 6 = .ok (.lreturn, 1) := by decide +kernel
theorem dL_balance_7 : decode cL_balance 7 = .ok (.astore_n 2, 1) := by decide +kernel
theorem dL_balance_8 : decode cL_balance 8 = .ok (.ldc2_w 33, 3) := by decide +kernel
theorem dL_balance_11 : decode cL_balance 11 = .ok (.lreturn, 1) := by decide +kernel
theorem dL_caseOf_0 : decode cL_caseOf 0 = .ok (.aload_n 0, 1) := by decide +kernel
theorem dL_caseOf_1 : decode cL_caseOf 1 = .ok (.iload_n 1, 1) := by decide +kernel
theorem dL_caseOf_2 : decode cL_caseOf 2 = .ok (.invokevirtual 170, 3) := by decide +kernel
theorem dL_caseOf_5 : decode cL_caseOf 5 = .ok (.i2l, 1) := by decide +kernel
theorem dL_caseOf_6 : decode cL_caseOf 6 = .ok (.lreturn, 1) := by decide +kernel
theorem dL_caseOf_7 : decode cL_caseOf 7 = .ok (.astore_n 2, 1) := by decide +kernel
theorem dL_caseOf_8 : decode cL_caseOf 8 = .ok (.ldc2_w 33, 3) := by decide +kernel
theorem dL_caseOf_11 : decode cL_caseOf 11 = .ok (.lreturn, 1) := by decide +kernel
theorem dL_answered_0 : decode cL_answered 0 = .ok (.aload_n 0, 1) := by decide +kernel
theorem dL_answered_1 : decode cL_answered 1 = .ok (.iload_n 1, 1) := by decide +kernel
theorem dL_answered_2 : decode cL_answered 2 = .ok (.invokevirtual 173, 3) := by decide +kernel
theorem dL_answered_5 : decode cL_answered 5 = .ok (.ifCond .eq 7, 3) := by decide +kernel
theorem dL_answered_8 : decode cL_answered 8 = .ok (.lconst 1, 1) := by decide +kernel
theorem dL_answered_9 : decode cL_answered 9 = .ok (.goto 4, 3) := by decide +kernel
theorem dL_answered_12 : decode cL_answered 12 = .ok (.lconst 0, 1) := by decide +kernel
theorem dL_answered_13 : decode cL_answered 13 = .ok (.lreturn, 1) := by decide +kernel
theorem dL_answered_14 : decode cL_answered 14 = .ok (.astore_n 2, 1) := by decide +kernel
theorem dL_answered_15 : decode cL_answered 15 = .ok (.ldc2_w 33, 3) := by decide +kernel
theorem dL_answered_18 : decode cL_answered 18 = .ok (.lreturn, 1) := by decide +kernel
theorem dL_due_0 : decode cL_due 0 = .ok (.aload_n 0, 1) := by decide +kernel
theorem dL_due_1 : decode cL_due 1 = .ok (.iload_n 1, 1) := by decide +kernel
theorem dL_due_2 : decode cL_due 2 = .ok (.iload_n 2, 1) := by decide +kernel
theorem dL_due_3 : decode cL_due 3 = .ok (.invokevirtual 176, 3) := by decide +kernel
theorem dL_due_6 : decode cL_due 6 = .ok (.i2l, 1) := by decide +kernel
theorem dL_due_7 : decode cL_due 7 = .ok (.lreturn, 1) := by decide +kernel
theorem dL_due_8 : decode cL_due 8 = .ok (.astore_n 3, 1) := by decide +kernel
theorem dL_due_9 : decode cL_due 9 = .ok (.ldc2_w 33, 3) := by decide +kernel
theorem dL_due_12 : decode cL_due 12 = .ok (.lreturn, 1) := by decide +kernel
theorem dL_dueByDays_0 : decode cL_dueByDays 0 = .ok (.aload_n 0, 1) := by decide +kernel
theorem dL_dueByDays_1 : decode cL_dueByDays 1 = .ok (.iload_n 1, 1) := by decide +kernel
theorem dL_dueByDays_2 : decode cL_dueByDays 2 = .ok (.iload_n 2, 1) := by decide +kernel
theorem dL_dueByDays_3 : decode cL_dueByDays 3 = .ok (.invokevirtual 179, 3) := by decide +kernel
theorem dL_dueByDays_6 : decode cL_dueByDays 6 = .ok (.i2l, 1) := by decide +kernel
theorem dL_dueByDays_7 : decode cL_dueByDays 7 = .ok (.lreturn, 1) := by decide +kernel
theorem dL_dueByDays_8 : decode cL_dueByDays 8 = .ok (.astore_n 3, 1) := by decide +kernel
theorem dL_dueByDays_9 : decode cL_dueByDays 9 = .ok (.ldc2_w 33, 3) := by decide +kernel
theorem dL_dueByDays_12 : decode cL_dueByDays 12 = .ok (.lreturn, 1) := by decide +kernel
theorem dL_agrees_0 : decode cL_agrees 0 = .ok (.aload_n 0, 1) := by decide +kernel
theorem dL_agrees_1 : decode cL_agrees 1 = .ok (.iload_n 1, 1) := by decide +kernel
theorem dL_agrees_2 : decode cL_agrees 2 = .ok (.invokestatic 182, 3) := by decide +kernel
theorem dL_agrees_5 : decode cL_agrees 5 = .ok (.ldc2_w 33, 3) := by decide +kernel
theorem dL_agrees_8 : decode cL_agrees 8 = .ok (.lcmp, 1) := by decide +kernel
theorem dL_agrees_9 : decode cL_agrees 9 = .ok (.ifCond .ne 19, 3) := by decide +kernel
theorem dL_agrees_12 : decode cL_agrees 12 = .ok (.aload_n 0, 1) := by decide +kernel
theorem dL_agrees_13 : decode cL_agrees 13 = .ok (.iconst (-1), 1) := by decide +kernel
theorem dL_agrees_14 : decode cL_agrees 14 = .ok (.invokestatic 187, 3) := by decide +kernel
theorem dL_agrees_17 : decode cL_agrees 17 = .ok (.ldc2_w 33, 3) := by decide +kernel
theorem dL_agrees_20 : decode cL_agrees 20 = .ok (.lcmp, 1) := by decide +kernel
theorem dL_agrees_21 : decode cL_agrees 21 = .ok (.ifCond .ne 7, 3) := by decide +kernel
theorem dL_agrees_24 : decode cL_agrees 24 = .ok (.iconst 1, 1) := by decide +kernel
theorem dL_agrees_25 : decode cL_agrees 25 = .ok (.goto 4, 3) := by decide +kernel
theorem dL_agrees_28 : decode cL_agrees 28 = .ok (.iconst 0, 1) := by decide +kernel
theorem dL_agrees_29 : decode cL_agrees 29 = .ok (.istore 4, 2) := by decide +kernel
theorem dL_agrees_31 : decode cL_agrees 31 = .ok (.iconst 0, 1) := by decide +kernel
theorem dL_agrees_32 : decode cL_agrees 32 = .ok (.istore 5, 2) := by decide +kernel
theorem dL_agrees_34 : decode cL_agrees 34 = .ok (.iload 5, 2) := by decide +kernel
theorem dL_agrees_36 : decode cL_agrees 36 = .ok (.iload_n 1, 1) := by decide +kernel
theorem dL_agrees_37 : decode cL_agrees 37 = .ok (.if_icmp .ge 149, 3) := by decide +kernel
theorem dL_agrees_40 : decode cL_agrees 40 = .ok (.iload 4, 2) := by decide +kernel
theorem dL_agrees_42 : decode cL_agrees 42 = .ok (.ifCond .eq 144, 3) := by decide +kernel
theorem dL_agrees_45 : decode cL_agrees 45 = .ok (.aload_n 0, 1) := by decide +kernel
theorem dL_agrees_46 : decode cL_agrees 46 = .ok (.iload 5, 2) := by decide +kernel
theorem dL_agrees_48 : decode cL_agrees 48 = .ok (.invokestatic 182, 3) := by decide +kernel
theorem dL_agrees_51 : decode cL_agrees 51 = .ok (.lstore 6, 2) := by decide +kernel
theorem dL_agrees_53 : decode cL_agrees 53 = .ok (.lload 6, 2) := by decide +kernel
theorem dL_agrees_55 : decode cL_agrees 55 = .ok (.lconst 0, 1) := by decide +kernel
theorem dL_agrees_56 : decode cL_agrees 56 = .ok (.lcmp, 1) := by decide +kernel
theorem dL_agrees_57 : decode cL_agrees 57 = .ok (.ifCond .lt 113, 3) := by decide +kernel
theorem dL_agrees_60 : decode cL_agrees 60 = .ok (.lload 6, 2) := by decide +kernel
theorem dL_agrees_62 : decode cL_agrees 62 = .ok (.ldc2_w 189, 3) := by decide +kernel
theorem dL_agrees_65 : decode cL_agrees 65 = .ok (.lcmp, 1) := by decide +kernel
theorem dL_agrees_66 : decode cL_agrees 66 = .ok (.ifCond .gt 104, 3) := by decide +kernel
theorem dL_agrees_69 : decode cL_agrees 69 = .ok (.aload_n 0, 1) := by decide +kernel
theorem dL_agrees_70 : decode cL_agrees 70 = .ok (.iload 5, 2) := by decide +kernel
theorem dL_agrees_72 : decode cL_agrees 72 = .ok (.invokestatic 191, 3) := by decide +kernel
theorem dL_agrees_75 : decode cL_agrees 75 = .ok (.lload 6, 2) := by decide +kernel
theorem dL_agrees_77 : decode cL_agrees 77 = .ok (.lcmp, 1) := by decide +kernel
theorem dL_agrees_78 : decode cL_agrees 78 = .ok (.ifCond .ne 92, 3) := by decide +kernel
theorem dL_agrees_81 : decode cL_agrees 81 = .ok (.aload_n 2, 1) := by decide +kernel
theorem dL_agrees_82 : decode cL_agrees 82 = .ok (.iload 5, 2) := by decide +kernel
theorem dL_agrees_84 : decode cL_agrees 84 = .ok (.iaload, 1) := by decide +kernel
theorem dL_agrees_85 : decode cL_agrees 85 = .ok (.iconst 4, 1) := by decide +kernel
theorem dL_agrees_86 : decode cL_agrees 86 = .ok (.if_icmp .lt 14, 3) := by decide +kernel
theorem dL_agrees_89 : decode cL_agrees 89 = .ok (.aload_n 2, 1) := by decide +kernel
theorem dL_agrees_90 : decode cL_agrees 90 = .ok (.iload 5, 2) := by decide +kernel
theorem dL_agrees_92 : decode cL_agrees 92 = .ok (.iaload, 1) := by decide +kernel
theorem dL_agrees_93 : decode cL_agrees 93 = .ok (.i2l, 1) := by decide +kernel
theorem dL_agrees_94 : decode cL_agrees 94 = .ok (.lload 6, 2) := by decide +kernel
theorem dL_agrees_96 : decode cL_agrees 96 = .ok (.lcmp, 1) := by decide +kernel
theorem dL_agrees_97 : decode cL_agrees 97 = .ok (.ifCond .ne 73, 3) := by decide +kernel
theorem dL_agrees_100 : decode cL_agrees 100 = .ok (.aload_n 0, 1) := by decide +kernel
theorem dL_agrees_101 : decode cL_agrees 101 = .ok (.iload 5, 2) := by decide +kernel
theorem dL_agrees_103 : decode cL_agrees 103 = .ok (.invokestatic 193, 3) := by decide +kernel
theorem dL_agrees_106 : decode cL_agrees 106 = .ok (.lconst 1, 1) := by decide +kernel
theorem dL_agrees_107 : decode cL_agrees 107 = .ok (.lcmp, 1) := by decide +kernel
theorem dL_agrees_108 : decode cL_agrees 108 = .ok (.ifCond .lt 62, 3) := by decide +kernel
theorem dL_agrees_111 : decode cL_agrees 111 = .ok (.aload_n 0, 1) := by decide +kernel
theorem dL_agrees_112 : decode cL_agrees 112 = .ok (.iload 5, 2) := by decide +kernel
theorem dL_agrees_114 : decode cL_agrees 114 = .ok (.invokestatic 187, 3) := by decide +kernel
theorem dL_agrees_117 : decode cL_agrees 117 = .ok (.lconst 0, 1) := by decide +kernel
theorem dL_agrees_118 : decode cL_agrees 118 = .ok (.lcmp, 1) := by decide +kernel
theorem dL_agrees_119 : decode cL_agrees 119 = .ok (.ifCond .le 7, 3) := by decide +kernel
theorem dL_agrees_122 : decode cL_agrees 122 = .ok (.iconst 1, 1) := by decide +kernel
theorem dL_agrees_123 : decode cL_agrees 123 = .ok (.goto 4, 3) := by decide +kernel
theorem dL_agrees_126 : decode cL_agrees 126 = .ok (.iconst 0, 1) := by decide +kernel
theorem dL_agrees_127 : decode cL_agrees 127 = .ok (.lload 6, 2) := by decide +kernel
theorem dL_agrees_129 : decode cL_agrees 129 = .ok (.ldc2_w 195, 3) := by decide +kernel
theorem dL_agrees_132 : decode cL_agrees 132 = .ok (.lcmp, 1) := by decide +kernel
theorem dL_agrees_133 : decode cL_agrees 133 = .ok (.ifCond .ne 7, 3) := by decide +kernel
theorem dL_agrees_136 : decode cL_agrees 136 = .ok (.iconst 1, 1) := by decide +kernel
theorem dL_agrees_137 : decode cL_agrees 137 = .ok (.goto 4, 3) := by decide +kernel
theorem dL_agrees_140 : decode cL_agrees 140 = .ok (.iconst 0, 1) := by decide +kernel
theorem dL_agrees_141 : decode cL_agrees 141 = .ok (.if_icmp .ne 29, 3) := by decide +kernel
theorem dL_agrees_144 : decode cL_agrees 144 = .ok (.aload_n 0, 1) := by decide +kernel
theorem dL_agrees_145 : decode cL_agrees 145 = .ok (.iload 5, 2) := by decide +kernel
theorem dL_agrees_147 : decode cL_agrees 147 = .ok (.invokestatic 187, 3) := by decide +kernel
theorem dL_agrees_150 : decode cL_agrees 150 = .ok (.lconst 0, 1) := by decide +kernel
theorem dL_agrees_151 : decode cL_agrees 151 = .ok (.lcmp, 1) := by decide +kernel
theorem dL_agrees_152 : decode cL_agrees 152 = .ok (.ifCond .lt 18, 3) := by decide +kernel
theorem dL_agrees_155 : decode cL_agrees 155 = .ok (.aload_n 0, 1) := by decide +kernel
theorem dL_agrees_156 : decode cL_agrees 156 = .ok (.iload 5, 2) := by decide +kernel
theorem dL_agrees_158 : decode cL_agrees 158 = .ok (.invokestatic 197, 3) := by decide +kernel
theorem dL_agrees_161 : decode cL_agrees 161 = .ok (.lconst 0, 1) := by decide +kernel
theorem dL_agrees_162 : decode cL_agrees 162 = .ok (.lcmp, 1) := by decide +kernel
theorem dL_agrees_163 : decode cL_agrees 163 = .ok (.ifCond .lt 7, 3) := by decide +kernel
theorem dL_agrees_166 : decode cL_agrees 166 = .ok (.iconst 1, 1) := by decide +kernel
theorem dL_agrees_167 : decode cL_agrees 167 = .ok (.goto 4, 3) := by decide +kernel
theorem dL_agrees_170 : decode cL_agrees 170 = .ok (.iconst 0, 1) := by decide +kernel
theorem dL_agrees_171 : decode cL_agrees 171 = .ok (.istore 4, 2) := by decide +kernel
theorem dL_agrees_173 : decode cL_agrees 173 = .ok (.aload_n 2, 1) := by decide +kernel
theorem dL_agrees_174 : decode cL_agrees 174 = .ok (.iload 5, 2) := by decide +kernel
theorem dL_agrees_176 : decode cL_agrees 176 = .ok (.lload 6, 2) := by decide +kernel
theorem dL_agrees_178 : decode cL_agrees 178 = .ok (.l2i, 1) := by decide +kernel
theorem dL_agrees_179 : decode cL_agrees 179 = .ok (.iastore, 1) := by decide +kernel
theorem dL_agrees_180 : decode cL_agrees 180 = .ok (.iinc 5 1, 3) := by decide +kernel
theorem dL_agrees_183 : decode cL_agrees 183 = .ok (.goto (-149), 3) := by decide +kernel
theorem dL_agrees_186 : decode cL_agrees 186 = .ok (.iload_n 1, 1) := by decide +kernel
theorem dL_agrees_187 : decode cL_agrees 187 = .ok (.ifCond .le 82, 3) := by decide +kernel
theorem dL_agrees_190 : decode cL_agrees 190 = .ok (.iload 4, 2) := by decide +kernel
theorem dL_agrees_192 : decode cL_agrees 192 = .ok (.ifCond .eq 77, 3) := by decide +kernel
theorem dL_agrees_195 : decode cL_agrees 195 = .ok (.iload_n 3, 1) := by decide +kernel
theorem dL_agrees_196 : decode cL_agrees 196 = .ok (.iload_n 1, 1) := by decide +kernel
theorem dL_agrees_197 : decode cL_agrees 197 = .ok (.irem, 1) := by decide +kernel
theorem dL_agrees_198 : decode cL_agrees 198 = .ok (.istore 5, 2) := by decide +kernel
theorem dL_agrees_200 : decode cL_agrees 200 = .ok (.iload_n 3, 1) := by decide +kernel
theorem dL_agrees_201 : decode cL_agrees 201 = .ok (.bipush 64, 2) := by decide +kernel
theorem dL_agrees_203 : decode cL_agrees 203 = .ok (.idiv, 1) := by decide +kernel
theorem dL_agrees_204 : decode cL_agrees 204 = .ok (.iconst 2, 1) := by decide +kernel
theorem dL_agrees_205 : decode cL_agrees 205 = .ok (.irem, 1) := by decide +kernel
theorem dL_agrees_206 : decode cL_agrees 206 = .ok (.iconst 2, 1) := by decide +kernel
theorem dL_agrees_207 : decode cL_agrees 207 = .ok (.imul, 1) := by decide +kernel
theorem dL_agrees_208 : decode cL_agrees 208 = .ok (.istore 6, 2) := by decide +kernel
theorem dL_agrees_210 : decode cL_agrees 210 = .ok (.aload_n 0, 1) := by decide +kernel
theorem dL_agrees_211 : decode cL_agrees 211 = .ok (.iload 6, 2) := by decide +kernel
theorem dL_agrees_213 : decode cL_agrees 213 = .ok (.iload 5, 2) := by decide +kernel
theorem dL_agrees_215 : decode cL_agrees 215 = .ok (.invokestatic 199, 3) := by decide +kernel
theorem dL_agrees_218 : decode cL_agrees 218 = .ok (.aload_n 0, 1) := by decide +kernel
theorem dL_agrees_219 : decode cL_agrees 219 = .ok (.iload 6, 2) := by decide +kernel
theorem dL_agrees_221 : decode cL_agrees 221 = .ok (.iload 5, 2) := by decide +kernel
theorem dL_agrees_223 : decode cL_agrees 223 = .ok (.invokestatic 202, 3) := by decide +kernel
theorem dL_agrees_226 : decode cL_agrees 226 = .ok (.lcmp, 1) := by decide +kernel
theorem dL_agrees_227 : decode cL_agrees 227 = .ok (.ifCond .ne 39, 3) := by decide +kernel
theorem dL_agrees_230 : decode cL_agrees 230 = .ok (.iload 6, 2) := by decide +kernel
theorem dL_agrees_232 : decode cL_agrees 232 = .ok (.ifCond .eq 30, 3) := by decide +kernel
theorem dL_agrees_235 : decode cL_agrees 235 = .ok (.aload_n 0, 1) := by decide +kernel
theorem dL_agrees_236 : decode cL_agrees 236 = .ok (.iload 5, 2) := by decide +kernel
theorem dL_agrees_238 : decode cL_agrees 238 = .ok (.invokestatic 182, 3) := by decide +kernel
theorem dL_agrees_241 : decode cL_agrees 241 = .ok (.ldc2_w 195, 3) := by decide +kernel
theorem dL_agrees_244 : decode cL_agrees 244 = .ok (.lcmp, 1) := by decide +kernel
theorem dL_agrees_245 : decode cL_agrees 245 = .ok (.ifCond .eq 17, 3) := by decide +kernel
theorem dL_agrees_248 : decode cL_agrees 248 = .ok (.aload_n 0, 1) := by decide +kernel
theorem dL_agrees_249 : decode cL_agrees 249 = .ok (.iconst 2, 1) := by decide +kernel
theorem dL_agrees_250 : decode cL_agrees 250 = .ok (.iload 5, 2) := by decide +kernel
theorem dL_agrees_252 : decode cL_agrees 252 = .ok (.invokestatic 199, 3) := by decide +kernel
theorem dL_agrees_255 : decode cL_agrees 255 = .ok (.ldc2_w 204, 3) := by decide +kernel
theorem dL_agrees_258 : decode cL_agrees 258 = .ok (.lcmp, 1) := by decide +kernel
theorem dL_agrees_259 : decode cL_agrees 259 = .ok (.ifCond .ne 7, 3) := by decide +kernel
theorem dL_agrees_262 : decode cL_agrees 262 = .ok (.iconst 1, 1) := by decide +kernel
theorem dL_agrees_263 : decode cL_agrees 263 = .ok (.goto 4, 3) := by decide +kernel
theorem dL_agrees_266 : decode cL_agrees 266 = .ok (.iconst 0, 1) := by decide +kernel
theorem dL_agrees_267 : decode cL_agrees 267 = .ok (.istore 4, 2) := by decide +kernel
theorem dL_agrees_269 : decode cL_agrees 269 = .ok (.iload 4, 2) := by decide +kernel
theorem dL_agrees_271 : decode cL_agrees 271 = .ok (.ireturn, 1) := by decide +kernel
theorem dL_entries_0 : decode cL_entries 0 = .ok (.aload_n 0, 1) := by decide +kernel
theorem dL_entries_1 : decode cL_entries 1 = .ok (.invokevirtual 206, 3) := by decide +kernel
theorem dL_entries_4 : decode cL_entries 4 = .ok (.istore_n 2, 1) := by decide +kernel
theorem dL_entries_5 : decode cL_entries 5 = .ok (.aload_n 0, 1) := by decide +kernel
theorem dL_entries_6 : decode cL_entries 6 = .ok (.iload_n 2, 1) := by decide +kernel
theorem dL_entries_7 : decode cL_entries 7 = .ok (.iconst 0, 1) := by decide +kernel
theorem dL_entries_8 : decode cL_entries 8 = .ok (.invokestatic 210, 3) := by decide +kernel
theorem dL_entries_11 : decode cL_entries 11 = .ok (.ldc2_w 33, 3) := by decide +kernel
theorem dL_entries_14 : decode cL_entries 14 = .ok (.lcmp, 1) := by decide +kernel
theorem dL_entries_15 : decode cL_entries 15 = .ok (.ifCond .ne 53, 3) := by decide +kernel
theorem dL_entries_18 : decode cL_entries 18 = .ok (.aload_n 0, 1) := by decide +kernel
theorem dL_entries_19 : decode cL_entries 19 = .ok (.iconst 0, 1) := by decide +kernel
theorem dL_entries_20 : decode cL_entries 20 = .ok (.iconst 5, 1) := by decide +kernel
theorem dL_entries_21 : decode cL_entries 21 = .ok (.invokestatic 210, 3) := by decide +kernel
theorem dL_entries_24 : decode cL_entries 24 = .ok (.ldc2_w 33, 3) := by decide +kernel
theorem dL_entries_27 : decode cL_entries 27 = .ok (.lcmp, 1) := by decide +kernel
theorem dL_entries_28 : decode cL_entries 28 = .ok (.ifCond .ne 40, 3) := by decide +kernel
theorem dL_entries_31 : decode cL_entries 31 = .ok (.aload_n 0, 1) := by decide +kernel
theorem dL_entries_32 : decode cL_entries 32 = .ok (.iload_n 2, 1) := by decide +kernel
theorem dL_entries_33 : decode cL_entries 33 = .ok (.invokestatic 212, 3) := by decide +kernel
theorem dL_entries_36 : decode cL_entries 36 = .ok (.ldc2_w 33, 3) := by decide +kernel
theorem dL_entries_39 : decode cL_entries 39 = .ok (.lcmp, 1) := by decide +kernel
theorem dL_entries_40 : decode cL_entries 40 = .ok (.ifCond .ne 28, 3) := by decide +kernel
theorem dL_entries_43 : decode cL_entries 43 = .ok (.iload_n 2, 1) := by decide +kernel
theorem dL_entries_44 : decode cL_entries 44 = .ok (.ifCond .eq 20, 3) := by decide +kernel
theorem dL_entries_47 : decode cL_entries 47 = .ok (.aload_n 0, 1) := by decide +kernel
theorem dL_entries_48 : decode cL_entries 48 = .ok (.iload_n 2, 1) := by decide +kernel
theorem dL_entries_49 : decode cL_entries 49 = .ok (.iconst 1, 1) := by decide +kernel
theorem dL_entries_50 : decode cL_entries 50 = .ok (.isub, 1) := by decide +kernel
theorem dL_entries_51 : decode cL_entries 51 = .ok (.iconst 1, 1) := by decide +kernel
theorem dL_entries_52 : decode cL_entries 52 = .ok (.invokestatic 210, 3) := by decide +kernel
theorem dL_entries_55 : decode cL_entries 55 = .ok (.aload_n 0, 1) := by decide +kernel
theorem dL_entries_56 : decode cL_entries 56 = .ok (.invokevirtual 214, 3) := by decide +kernel
theorem dL_entries_59 : decode cL_entries 59 = .ok (.i2l, 1) := by decide +kernel
theorem dL_entries_60 : decode cL_entries 60 = .ok (.lcmp, 1) := by decide +kernel
theorem dL_entries_61 : decode cL_entries 61 = .ok (.ifCond .gt 7, 3) := by decide +kernel
theorem dL_entries_64 : decode cL_entries 64 = .ok (.iconst 1, 1) := by decide +kernel
theorem dL_entries_65 : decode cL_entries 65 = .ok (.goto 4, 3) := by decide +kernel
theorem dL_entries_68 : decode cL_entries 68 = .ok (.iconst 0, 1) := by decide +kernel
theorem dL_entries_69 : decode cL_entries 69 = .ok (.istore_n 3, 1) := by decide +kernel
theorem dL_entries_70 : decode cL_entries 70 = .ok (.iload_n 2, 1) := by decide +kernel
theorem dL_entries_71 : decode cL_entries 71 = .ok (.bipush 12, 2) := by decide +kernel
theorem dL_entries_73 : decode cL_entries 73 = .ok (.if_icmp .le 10, 3) := by decide +kernel
theorem dL_entries_76 : decode cL_entries 76 = .ok (.iload_n 2, 1) := by decide +kernel
theorem dL_entries_77 : decode cL_entries 77 = .ok (.bipush 12, 2) := by decide +kernel
theorem dL_entries_79 : decode cL_entries 79 = .ok (.isub, 1) := by decide +kernel
theorem dL_entries_80 : decode cL_entries 80 = .ok (.goto 4, 3) := by decide +kernel
theorem dL_entries_83 : decode cL_entries 83 = .ok (.iconst 0, 1) := by decide +kernel
theorem dL_entries_84 : decode cL_entries 84 = .ok (.istore 4, 2) := by decide +kernel
theorem dL_entries_86 : decode cL_entries 86 = .ok (.iload 4, 2) := by decide +kernel
theorem dL_entries_88 : decode cL_entries 88 = .ok (.iload_n 2, 1) := by decide +kernel
theorem dL_entries_89 : decode cL_entries 89 = .ok (.if_icmp .ge 261, 3) := by decide +kernel
theorem dL_entries_92 : decode cL_entries 92 = .ok (.iload_n 3, 1) := by decide +kernel
theorem dL_entries_93 : decode cL_entries 93 = .ok (.ifCond .eq 257, 3) := by decide +kernel
theorem dL_entries_96 : decode cL_entries 96 = .ok (.aload_n 0, 1) := by decide +kernel
theorem dL_entries_97 : decode cL_entries 97 = .ok (.iload 4, 2) := by decide +kernel
theorem dL_entries_99 : decode cL_entries 99 = .ok (.iconst 0, 1) := by decide +kernel
theorem dL_entries_100 : decode cL_entries 100 = .ok (.invokestatic 210, 3) := by decide +kernel
theorem dL_entries_103 : decode cL_entries 103 = .ok (.lstore 5, 2) := by decide +kernel
theorem dL_entries_105 : decode cL_entries 105 = .ok (.lload 5, 2) := by decide +kernel
theorem dL_entries_107 : decode cL_entries 107 = .ok (.lconst 0, 1) := by decide +kernel
theorem dL_entries_108 : decode cL_entries 108 = .ok (.lcmp, 1) := by decide +kernel
theorem dL_entries_109 : decode cL_entries 109 = .ok (.ifCond .lt 68, 3) := by decide +kernel
theorem dL_entries_112 : decode cL_entries 112 = .ok (.lload 5, 2) := by decide +kernel
theorem dL_entries_114 : decode cL_entries 114 = .ok (.ldc2_w 217, 3) := by decide +kernel
theorem dL_entries_117 : decode cL_entries 117 = .ok (.lcmp, 1) := by decide +kernel
theorem dL_entries_118 : decode cL_entries 118 = .ok (.ifCond .gt 59, 3) := by decide +kernel
theorem dL_entries_121 : decode cL_entries 121 = .ok (.iload 4, 2) := by decide +kernel
theorem dL_entries_123 : decode cL_entries 123 = .ok (.ifCond .eq 23, 3) := by decide +kernel
theorem dL_entries_126 : decode cL_entries 126 = .ok (.aload_n 0, 1) := by decide +kernel
theorem dL_entries_127 : decode cL_entries 127 = .ok (.iload 4, 2) := by decide +kernel
theorem dL_entries_129 : decode cL_entries 129 = .ok (.iconst 1, 1) := by decide +kernel
theorem dL_entries_130 : decode cL_entries 130 = .ok (.invokestatic 210, 3) := by decide +kernel
theorem dL_entries_133 : decode cL_entries 133 = .ok (.aload_n 0, 1) := by decide +kernel
theorem dL_entries_134 : decode cL_entries 134 = .ok (.iload 4, 2) := by decide +kernel
theorem dL_entries_136 : decode cL_entries 136 = .ok (.iconst 1, 1) := by decide +kernel
theorem dL_entries_137 : decode cL_entries 137 = .ok (.isub, 1) := by decide +kernel
theorem dL_entries_138 : decode cL_entries 138 = .ok (.iconst 1, 1) := by decide +kernel
theorem dL_entries_139 : decode cL_entries 139 = .ok (.invokestatic 210, 3) := by decide +kernel
theorem dL_entries_142 : decode cL_entries 142 = .ok (.lcmp, 1) := by decide +kernel
theorem dL_entries_143 : decode cL_entries 143 = .ok (.ifCond .lt 34, 3) := by decide +kernel
theorem dL_entries_146 : decode cL_entries 146 = .ok (.aload_n 0, 1) := by decide +kernel
theorem dL_entries_147 : decode cL_entries 147 = .ok (.iload 4, 2) := by decide +kernel
theorem dL_entries_149 : decode cL_entries 149 = .ok (.invokestatic 212, 3) := by decide +kernel
theorem dL_entries_152 : decode cL_entries 152 = .ok (.lconst 1, 1) := by decide +kernel
theorem dL_entries_153 : decode cL_entries 153 = .ok (.lcmp, 1) := by decide +kernel
theorem dL_entries_154 : decode cL_entries 154 = .ok (.ifCond .eq 19, 3) := by decide +kernel
theorem dL_entries_157 : decode cL_entries 157 = .ok (.lload 5, 2) := by decide +kernel
theorem dL_entries_159 : decode cL_entries 159 = .ok (.lconst 1, 1) := by decide +kernel
theorem dL_entries_160 : decode cL_entries 160 = .ok (.lcmp, 1) := by decide +kernel
theorem dL_entries_161 : decode cL_entries 161 = .ok (.ifCond .lt 16, 3) := by decide +kernel
theorem dL_entries_164 : decode cL_entries 164 = .ok (.lload 5, 2) := by decide +kernel
theorem dL_entries_166 : decode cL_entries 166 = .ok (.ldc2_w 219, 3) := by decide +kernel
theorem dL_entries_169 : decode cL_entries 169 = .ok (.lcmp, 1) := by decide +kernel
theorem dL_entries_170 : decode cL_entries 170 = .ok (.ifCond .gt 7, 3) := by decide +kernel
theorem dL_entries_173 : decode cL_entries 173 = .ok (.iconst 1, 1) := by decide +kernel
theorem dL_entries_174 : decode cL_entries 174 = .ok (.goto 4, 3) := by decide +kernel
theorem dL_entries_177 : decode cL_entries 177 = .ok (.iconst 0, 1) := by decide +kernel
theorem dL_entries_178 : decode cL_entries 178 = .ok (.istore_n 3, 1) := by decide +kernel
theorem dL_entries_179 : decode cL_entries 179 = .ok (.aload_n 0, 1) := by decide +kernel
theorem dL_entries_180 : decode cL_entries 180 = .ok (.iload 4, 2) := by decide +kernel
theorem dL_entries_182 : decode cL_entries 182 = .ok (.iconst 1, 1) := by decide +kernel
theorem dL_entries_183 : decode cL_entries 183 = .ok (.invokestatic 210, 3) := by decide +kernel
theorem dL_entries_186 : decode cL_entries 186 = .ok (.l2i, 1) := by decide +kernel
theorem dL_entries_187 : decode cL_entries 187 = .ok (.istore 7, 2) := by decide +kernel
theorem dL_entries_189 : decode cL_entries 189 = .ok (.iload_n 3, 1) := by decide +kernel
theorem dL_entries_190 : decode cL_entries 190 = .ok (.ifCond .eq 112, 3) := by decide +kernel
theorem dL_entries_193 : decode cL_entries 193 = .ok (.iload 7, 2) := by decide +kernel
theorem dL_entries_195 : decode cL_entries 195 = .ok (.ifCond .eq 22, 3) := by decide +kernel
theorem dL_entries_198 : decode cL_entries 198 = .ok (.aload_n 0, 1) := by decide +kernel
theorem dL_entries_199 : decode cL_entries 199 = .ok (.iload 4, 2) := by decide +kernel
theorem dL_entries_201 : decode cL_entries 201 = .ok (.iload_n 1, 1) := by decide +kernel
theorem dL_entries_202 : decode cL_entries 202 = .ok (.bipush 16, 2) := by decide +kernel
theorem dL_entries_204 : decode cL_entries 204 = .ok (.irem, 1) := by decide +kernel
theorem dL_entries_205 : decode cL_entries 205 = .ok (.iload 7, 2) := by decide +kernel
theorem dL_entries_207 : decode cL_entries 207 = .ok (.iconst 1, 1) := by decide +kernel
theorem dL_entries_208 : decode cL_entries 208 = .ok (.isub, 1) := by decide +kernel
theorem dL_entries_209 : decode cL_entries 209 = .ok (.invokestatic 221, 3) := by decide +kernel
theorem dL_entries_212 : decode cL_entries 212 = .ok (.lconst 0, 1) := by decide +kernel
theorem dL_entries_213 : decode cL_entries 213 = .ok (.lcmp, 1) := by decide +kernel
theorem dL_entries_214 : decode cL_entries 214 = .ok (.ifCond .ne 88, 3) := by decide +kernel
theorem dL_entries_217 : decode cL_entries 217 = .ok (.aload_n 0, 1) := by decide +kernel
theorem dL_entries_218 : decode cL_entries 218 = .ok (.iload 4, 2) := by decide +kernel
theorem dL_entries_220 : decode cL_entries 220 = .ok (.iload_n 1, 1) := by decide +kernel
theorem dL_entries_221 : decode cL_entries 221 = .ok (.bipush 16, 2) := by decide +kernel
theorem dL_entries_223 : decode cL_entries 223 = .ok (.irem, 1) := by decide +kernel
theorem dL_entries_224 : decode cL_entries 224 = .ok (.aload_n 0, 1) := by decide +kernel
theorem dL_entries_225 : decode cL_entries 225 = .ok (.invokevirtual 214, 3) := by decide +kernel
theorem dL_entries_228 : decode cL_entries 228 = .ok (.iconst 1, 1) := by decide +kernel
theorem dL_entries_229 : decode cL_entries 229 = .ok (.iadd, 1) := by decide +kernel
theorem dL_entries_230 : decode cL_entries 230 = .ok (.invokestatic 221, 3) := by decide +kernel
theorem dL_entries_233 : decode cL_entries 233 = .ok (.ldc2_w 17, 3) := by decide +kernel
theorem dL_entries_236 : decode cL_entries 236 = .ok (.lcmp, 1) := by decide +kernel
theorem dL_entries_237 : decode cL_entries 237 = .ok (.ifCond .ne 65, 3) := by decide +kernel
theorem dL_entries_240 : decode cL_entries 240 = .ok (.lload 5, 2) := by decide +kernel
theorem dL_entries_242 : decode cL_entries 242 = .ok (.ldc2_w 224, 3) := by decide +kernel
theorem dL_entries_245 : decode cL_entries 245 = .ok (.lcmp, 1) := by decide +kernel
theorem dL_entries_246 : decode cL_entries 246 = .ok (.ifCond .ne 23, 3) := by decide +kernel
theorem dL_entries_249 : decode cL_entries 249 = .ok (.aload_n 0, 1) := by decide +kernel
theorem dL_entries_250 : decode cL_entries 250 = .ok (.aload_n 0, 1) := by decide +kernel
theorem dL_entries_251 : decode cL_entries 251 = .ok (.iload 4, 2) := by decide +kernel
theorem dL_entries_253 : decode cL_entries 253 = .ok (.iconst 4, 1) := by decide +kernel
theorem dL_entries_254 : decode cL_entries 254 = .ok (.invokestatic 210, 3) := by decide +kernel
theorem dL_entries_257 : decode cL_entries 257 = .ok (.l2i, 1) := by decide +kernel
theorem dL_entries_258 : decode cL_entries 258 = .ok (.iconst 0, 1) := by decide +kernel
theorem dL_entries_259 : decode cL_entries 259 = .ok (.invokestatic 210, 3) := by decide +kernel
theorem dL_entries_262 : decode cL_entries 262 = .ok (.ldc2_w 195, 3) := by decide +kernel
theorem dL_entries_265 : decode cL_entries 265 = .ok (.lcmp, 1) := by decide +kernel
theorem dL_entries_266 : decode cL_entries 266 = .ok (.ifCond .ne 36, 3) := by decide +kernel
theorem dL_entries_269 : decode cL_entries 269 = .ok (.lload 5, 2) := by decide +kernel
theorem dL_entries_271 : decode cL_entries 271 = .ok (.ldc2_w 219, 3) := by decide +kernel
theorem dL_entries_274 : decode cL_entries 274 = .ok (.lcmp, 1) := by decide +kernel
theorem dL_entries_275 : decode cL_entries 275 = .ok (.ifCond .ne 23, 3) := by decide +kernel
theorem dL_entries_278 : decode cL_entries 278 = .ok (.aload_n 0, 1) := by decide +kernel
theorem dL_entries_279 : decode cL_entries 279 = .ok (.aload_n 0, 1) := by decide +kernel
theorem dL_entries_280 : decode cL_entries 280 = .ok (.iload 4, 2) := by decide +kernel
theorem dL_entries_282 : decode cL_entries 282 = .ok (.iconst 3, 1) := by decide +kernel
theorem dL_entries_283 : decode cL_entries 283 = .ok (.invokestatic 210, 3) := by decide +kernel
theorem dL_entries_286 : decode cL_entries 286 = .ok (.l2i, 1) := by decide +kernel
theorem dL_entries_287 : decode cL_entries 287 = .ok (.iconst 0, 1) := by decide +kernel
theorem dL_entries_288 : decode cL_entries 288 = .ok (.invokestatic 210, 3) := by decide +kernel
theorem dL_entries_291 : decode cL_entries 291 = .ok (.ldc2_w 195, 3) := by decide +kernel
theorem dL_entries_294 : decode cL_entries 294 = .ok (.lcmp, 1) := by decide +kernel
theorem dL_entries_295 : decode cL_entries 295 = .ok (.ifCond .ne 7, 3) := by decide +kernel
theorem dL_entries_298 : decode cL_entries 298 = .ok (.iconst 1, 1) := by decide +kernel
theorem dL_entries_299 : decode cL_entries 299 = .ok (.goto 4, 3) := by decide +kernel
theorem dL_entries_302 : decode cL_entries 302 = .ok (.iconst 0, 1) := by decide +kernel
theorem dL_entries_303 : decode cL_entries 303 = .ok (.istore_n 3, 1) := by decide +kernel
theorem dL_entries_304 : decode cL_entries 304 = .ok (.iload_n 3, 1) := by decide +kernel
theorem dL_entries_305 : decode cL_entries 305 = .ok (.ifCond .eq 37, 3) := by decide +kernel
theorem dL_entries_308 : decode cL_entries 308 = .ok (.lload 5, 2) := by decide +kernel
theorem dL_entries_310 : decode cL_entries 310 = .ok (.lconst 0, 1) := by decide +kernel
theorem dL_entries_311 : decode cL_entries 311 = .ok (.lcmp, 1) := by decide +kernel
theorem dL_entries_312 : decode cL_entries 312 = .ok (.ifCond .le 12, 3) := by decide +kernel
theorem dL_entries_315 : decode cL_entries 315 = .ok (.lload 5, 2) := by decide +kernel
theorem dL_entries_317 : decode cL_entries 317 = .ok (.ldc2_w 224, 3) := by decide +kernel
theorem dL_entries_320 : decode cL_entries 320 = .ok (.lcmp, 1) := by decide +kernel
theorem dL_entries_321 : decode cL_entries 321 = .ok (.ifCond .lt 17, 3) := by decide +kernel
theorem dL_entries_324 : decode cL_entries 324 = .ok (.aload_n 0, 1) := by decide +kernel
theorem dL_entries_325 : decode cL_entries 325 = .ok (.iconst 3, 1) := by decide +kernel
theorem dL_entries_326 : decode cL_entries 326 = .ok (.iload 4, 2) := by decide +kernel
theorem dL_entries_328 : decode cL_entries 328 = .ok (.invokestatic 199, 3) := by decide +kernel
theorem dL_entries_331 : decode cL_entries 331 = .ok (.ldc2_w 204, 3) := by decide +kernel
theorem dL_entries_334 : decode cL_entries 334 = .ok (.lcmp, 1) := by decide +kernel
theorem dL_entries_335 : decode cL_entries 335 = .ok (.ifCond .ne 7, 3) := by decide +kernel
theorem dL_entries_338 : decode cL_entries 338 = .ok (.iconst 1, 1) := by decide +kernel
theorem dL_entries_339 : decode cL_entries 339 = .ok (.goto 4, 3) := by decide +kernel
theorem dL_entries_342 : decode cL_entries 342 = .ok (.iconst 0, 1) := by decide +kernel
theorem dL_entries_343 : decode cL_entries 343 = .ok (.istore_n 3, 1) := by decide +kernel
theorem dL_entries_344 : decode cL_entries 344 = .ok (.iinc 4 1, 3) := by decide +kernel
theorem dL_entries_347 : decode cL_entries 347 = .ok (.goto (-261), 3) := by decide +kernel
theorem dL_entries_350 : decode cL_entries 350 = .ok (.iload_n 3, 1) := by decide +kernel
theorem dL_entries_351 : decode cL_entries 351 = .ok (.ireturn, 1) := by decide +kernel
theorem dL_refuses_0 : decode cL_refuses 0 = .ok (.aload_n 0, 1) := by decide +kernel
theorem dL_refuses_1 : decode cL_refuses 1 = .ok (.invokevirtual 206, 3) := by decide +kernel
theorem dL_refuses_4 : decode cL_refuses 4 = .ok (.istore_n 2, 1) := by decide +kernel
theorem dL_refuses_5 : decode cL_refuses 5 = .ok (.aload_n 0, 1) := by decide +kernel
theorem dL_refuses_6 : decode cL_refuses 6 = .ok (.invokevirtual 214, 3) := by decide +kernel
theorem dL_refuses_9 : decode cL_refuses 9 = .ok (.istore_n 3, 1) := by decide +kernel
theorem dL_refuses_10 : decode cL_refuses 10 = .ok (.aload_n 0, 1) := by decide +kernel
theorem dL_refuses_11 : decode cL_refuses 11 = .ok (.iconst 0, 1) := by decide +kernel
theorem dL_refuses_12 : decode cL_refuses 12 = .ok (.invokestatic 226, 3) := by decide +kernel
theorem dL_refuses_15 : decode cL_refuses 15 = .ok (.ldc2_w 17, 3) := by decide +kernel
theorem dL_refuses_18 : decode cL_refuses 18 = .ok (.lcmp, 1) := by decide +kernel
theorem dL_refuses_19 : decode cL_refuses 19 = .ok (.ifCond .ne 218, 3) := by decide +kernel
theorem dL_refuses_22 : decode cL_refuses 22 = .ok (.aload_n 0, 1) := by decide +kernel
theorem dL_refuses_23 : decode cL_refuses 23 = .ok (.bipush 61, 2) := by decide +kernel
theorem dL_refuses_25 : decode cL_refuses 25 = .ok (.invokestatic 226, 3) := by decide +kernel
theorem dL_refuses_28 : decode cL_refuses 28 = .ok (.ldc2_w 17, 3) := by decide +kernel
theorem dL_refuses_31 : decode cL_refuses 31 = .ok (.lcmp, 1) := by decide +kernel
theorem dL_refuses_32 : decode cL_refuses 32 = .ok (.ifCond .ne 205, 3) := by decide +kernel
theorem dL_refuses_35 : decode cL_refuses 35 = .ok (.aload_n 0, 1) := by decide +kernel
theorem dL_refuses_36 : decode cL_refuses 36 = .ok (.iconst (-1), 1) := by decide +kernel
theorem dL_refuses_37 : decode cL_refuses 37 = .ok (.invokestatic 228, 3) := by decide +kernel
theorem dL_refuses_40 : decode cL_refuses 40 = .ok (.ldc2_w 17, 3) := by decide +kernel
theorem dL_refuses_43 : decode cL_refuses 43 = .ok (.lcmp, 1) := by decide +kernel
theorem dL_refuses_44 : decode cL_refuses 44 = .ok (.ifCond .ne 193, 3) := by decide +kernel
theorem dL_refuses_47 : decode cL_refuses 47 = .ok (.aload_n 0, 1) := by decide +kernel
theorem dL_refuses_48 : decode cL_refuses 48 = .ok (.iload_n 3, 1) := by decide +kernel
theorem dL_refuses_49 : decode cL_refuses 49 = .ok (.invokestatic 228, 3) := by decide +kernel
theorem dL_refuses_52 : decode cL_refuses 52 = .ok (.ldc2_w 21, 3) := by decide +kernel
theorem dL_refuses_55 : decode cL_refuses 55 = .ok (.lcmp, 1) := by decide +kernel
theorem dL_refuses_56 : decode cL_refuses 56 = .ok (.ifCond .ne 181, 3) := by decide +kernel
theorem dL_refuses_59 : decode cL_refuses 59 = .ok (.aload_n 0, 1) := by decide +kernel
theorem dL_refuses_60 : decode cL_refuses 60 = .ok (.iconst 5, 1) := by decide +kernel
theorem dL_refuses_61 : decode cL_refuses 61 = .ok (.iconst 0, 1) := by decide +kernel
theorem dL_refuses_62 : decode cL_refuses 62 = .ok (.iconst 1, 1) := by decide +kernel
theorem dL_refuses_63 : decode cL_refuses 63 = .ok (.invokestatic 230, 3) := by decide +kernel
theorem dL_refuses_66 : decode cL_refuses 66 = .ok (.ldc2_w 33, 3) := by decide +kernel
theorem dL_refuses_69 : decode cL_refuses 69 = .ok (.lcmp, 1) := by decide +kernel
theorem dL_refuses_70 : decode cL_refuses 70 = .ok (.ifCond .ne 167, 3) := by decide +kernel
theorem dL_refuses_73 : decode cL_refuses 73 = .ok (.aload_n 0, 1) := by decide +kernel
theorem dL_refuses_74 : decode cL_refuses 74 = .ok (.iconst 0, 1) := by decide +kernel
theorem dL_refuses_75 : decode cL_refuses 75 = .ok (.bipush 61, 2) := by decide +kernel
theorem dL_refuses_77 : decode cL_refuses 77 = .ok (.iconst 1, 1) := by decide +kernel
theorem dL_refuses_78 : decode cL_refuses 78 = .ok (.invokestatic 230, 3) := by decide +kernel
theorem dL_refuses_81 : decode cL_refuses 81 = .ok (.ldc2_w 17, 3) := by decide +kernel
theorem dL_refuses_84 : decode cL_refuses 84 = .ok (.lcmp, 1) := by decide +kernel
theorem dL_refuses_85 : decode cL_refuses 85 = .ok (.ifCond .ne 152, 3) := by decide +kernel
theorem dL_refuses_88 : decode cL_refuses 88 = .ok (.aload_n 0, 1) := by decide +kernel
theorem dL_refuses_89 : decode cL_refuses 89 = .ok (.iconst 3, 1) := by decide +kernel
theorem dL_refuses_90 : decode cL_refuses 90 = .ok (.invokestatic 233, 3) := by decide +kernel
theorem dL_refuses_93 : decode cL_refuses 93 = .ok (.ldc2_w 33, 3) := by decide +kernel
theorem dL_refuses_96 : decode cL_refuses 96 = .ok (.lcmp, 1) := by decide +kernel
theorem dL_refuses_97 : decode cL_refuses 97 = .ok (.ifCond .ne 140, 3) := by decide +kernel
theorem dL_refuses_100 : decode cL_refuses 100 = .ok (.aload_n 0, 1) := by decide +kernel
theorem dL_refuses_101 : decode cL_refuses 101 = .ok (.bipush 8, 2) := by decide +kernel
theorem dL_refuses_103 : decode cL_refuses 103 = .ok (.iconst 0, 1) := by decide +kernel
theorem dL_refuses_104 : decode cL_refuses 104 = .ok (.iconst 0, 1) := by decide +kernel
theorem dL_refuses_105 : decode cL_refuses 105 = .ok (.invokestatic 235, 3) := by decide +kernel
theorem dL_refuses_108 : decode cL_refuses 108 = .ok (.ldc2_w 33, 3) := by decide +kernel
theorem dL_refuses_111 : decode cL_refuses 111 = .ok (.lcmp, 1) := by decide +kernel
theorem dL_refuses_112 : decode cL_refuses 112 = .ok (.ifCond .ne 125, 3) := by decide +kernel
theorem dL_refuses_115 : decode cL_refuses 115 = .ok (.aload_n 0, 1) := by decide +kernel
theorem dL_refuses_116 : decode cL_refuses 116 = .ok (.iconst (-1), 1) := by decide +kernel
theorem dL_refuses_117 : decode cL_refuses 117 = .ok (.iconst 0, 1) := by decide +kernel
theorem dL_refuses_118 : decode cL_refuses 118 = .ok (.invokestatic 237, 3) := by decide +kernel
theorem dL_refuses_121 : decode cL_refuses 121 = .ok (.ldc2_w 33, 3) := by decide +kernel
theorem dL_refuses_124 : decode cL_refuses 124 = .ok (.lcmp, 1) := by decide +kernel
theorem dL_refuses_125 : decode cL_refuses 125 = .ok (.ifCond .ne 112, 3) := by decide +kernel
theorem dL_refuses_128 : decode cL_refuses 128 = .ok (.aload_n 0, 1) := by decide +kernel
theorem dL_refuses_129 : decode cL_refuses 129 = .ok (.iconst 0, 1) := by decide +kernel
theorem dL_refuses_130 : decode cL_refuses 130 = .ok (.bipush 16, 2) := by decide +kernel
theorem dL_refuses_132 : decode cL_refuses 132 = .ok (.iconst 0, 1) := by decide +kernel
theorem dL_refuses_133 : decode cL_refuses 133 = .ok (.iconst 0, 1) := by decide +kernel
theorem dL_refuses_134 : decode cL_refuses 134 = .ok (.invokestatic 239, 3) := by decide +kernel
theorem dL_refuses_137 : decode cL_refuses 137 = .ok (.ldc2_w 33, 3) := by decide +kernel
theorem dL_refuses_140 : decode cL_refuses 140 = .ok (.lcmp, 1) := by decide +kernel
theorem dL_refuses_141 : decode cL_refuses 141 = .ok (.ifCond .ne 96, 3) := by decide +kernel
theorem dL_refuses_144 : decode cL_refuses 144 = .ok (.aload_n 0, 1) := by decide +kernel
theorem dL_refuses_145 : decode cL_refuses 145 = .ok (.iload_n 1, 1) := by decide +kernel
theorem dL_refuses_146 : decode cL_refuses 146 = .ok (.invokestatic 242, 3) := by decide +kernel
theorem dL_refuses_149 : decode cL_refuses 149 = .ok (.ldc2_w 33, 3) := by decide +kernel
theorem dL_refuses_152 : decode cL_refuses 152 = .ok (.lcmp, 1) := by decide +kernel
theorem dL_refuses_153 : decode cL_refuses 153 = .ok (.ifCond .ne 84, 3) := by decide +kernel
theorem dL_refuses_156 : decode cL_refuses 156 = .ok (.aload_n 0, 1) := by decide +kernel
theorem dL_refuses_157 : decode cL_refuses 157 = .ok (.iload_n 1, 1) := by decide +kernel
theorem dL_refuses_158 : decode cL_refuses 158 = .ok (.iconst 0, 1) := by decide +kernel
theorem dL_refuses_159 : decode cL_refuses 159 = .ok (.invokestatic 244, 3) := by decide +kernel
theorem dL_refuses_162 : decode cL_refuses 162 = .ok (.ldc2_w 33, 3) := by decide +kernel
theorem dL_refuses_165 : decode cL_refuses 165 = .ok (.lcmp, 1) := by decide +kernel
theorem dL_refuses_166 : decode cL_refuses 166 = .ok (.ifCond .ne 71, 3) := by decide +kernel
theorem dL_refuses_169 : decode cL_refuses 169 = .ok (.aload_n 0, 1) := by decide +kernel
theorem dL_refuses_170 : decode cL_refuses 170 = .ok (.iconst (-1), 1) := by decide +kernel
theorem dL_refuses_171 : decode cL_refuses 171 = .ok (.invokestatic 246, 3) := by decide +kernel
theorem dL_refuses_174 : decode cL_refuses 174 = .ok (.ldc2_w 33, 3) := by decide +kernel
theorem dL_refuses_177 : decode cL_refuses 177 = .ok (.lcmp, 1) := by decide +kernel
theorem dL_refuses_178 : decode cL_refuses 178 = .ok (.ifCond .ne 59, 3) := by decide +kernel
theorem dL_refuses_181 : decode cL_refuses 181 = .ok (.aload_n 0, 1) := by decide +kernel
theorem dL_refuses_182 : decode cL_refuses 182 = .ok (.iload_n 1, 1) := by decide +kernel
theorem dL_refuses_183 : decode cL_refuses 183 = .ok (.invokestatic 248, 3) := by decide +kernel
theorem dL_refuses_186 : decode cL_refuses 186 = .ok (.ldc2_w 33, 3) := by decide +kernel
theorem dL_refuses_189 : decode cL_refuses 189 = .ok (.lcmp, 1) := by decide +kernel
theorem dL_refuses_190 : decode cL_refuses 190 = .ok (.ifCond .ne 47, 3) := by decide +kernel
theorem dL_refuses_193 : decode cL_refuses 193 = .ok (.aload_n 0, 1) := by decide +kernel
theorem dL_refuses_194 : decode cL_refuses 194 = .ok (.iload_n 2, 1) := by decide +kernel
theorem dL_refuses_195 : decode cL_refuses 195 = .ok (.invokestatic 250, 3) := by decide +kernel
theorem dL_refuses_198 : decode cL_refuses 198 = .ok (.ldc2_w 33, 3) := by decide +kernel
theorem dL_refuses_201 : decode cL_refuses 201 = .ok (.lcmp, 1) := by decide +kernel
theorem dL_refuses_202 : decode cL_refuses 202 = .ok (.ifCond .ne 35, 3) := by decide +kernel
theorem dL_refuses_205 : decode cL_refuses 205 = .ok (.aload_n 0, 1) := by decide +kernel
theorem dL_refuses_206 : decode cL_refuses 206 = .ok (.iload_n 2, 1) := by decide +kernel
theorem dL_refuses_207 : decode cL_refuses 207 = .ok (.bipush (-2), 2) := by decide +kernel
theorem dL_refuses_209 : decode cL_refuses 209 = .ok (.invokestatic 252, 3) := by decide +kernel
theorem dL_refuses_212 : decode cL_refuses 212 = .ok (.ldc2_w 33, 3) := by decide +kernel
theorem dL_refuses_215 : decode cL_refuses 215 = .ok (.lcmp, 1) := by decide +kernel
theorem dL_refuses_216 : decode cL_refuses 216 = .ok (.ifCond .ne 21, 3) := by decide +kernel
theorem dL_refuses_219 : decode cL_refuses 219 = .ok (.aload_n 0, 1) := by decide +kernel
theorem dL_refuses_220 : decode cL_refuses 220 = .ok (.iload_n 1, 1) := by decide +kernel
theorem dL_refuses_221 : decode cL_refuses 221 = .ok (.bipush (-2), 2) := by decide +kernel
theorem dL_refuses_223 : decode cL_refuses 223 = .ok (.invokestatic 254, 3) := by decide +kernel
theorem dL_refuses_226 : decode cL_refuses 226 = .ok (.ldc2_w 33, 3) := by decide +kernel
theorem dL_refuses_229 : decode cL_refuses 229 = .ok (.lcmp, 1) := by decide +kernel
theorem dL_refuses_230 : decode cL_refuses 230 = .ok (.ifCond .ne 7, 3) := by decide +kernel
theorem dL_refuses_233 : decode cL_refuses 233 = .ok (.iconst 1, 1) := by decide +kernel
theorem dL_refuses_234 : decode cL_refuses 234 = .ok (.goto 4, 3) := by decide +kernel
theorem dL_refuses_237 : decode cL_refuses 237 = .ok (.iconst 0, 1) := by decide +kernel
theorem dL_refuses_238 : decode cL_refuses 238 = .ok (.istore 4, 2) := by decide +kernel
theorem dL_refuses_240 : decode cL_refuses 240 = .ok (.iload 4, 2) := by decide +kernel
theorem dL_refuses_242 : decode cL_refuses 242 = .ok (.ifCond .eq 219, 3) := by decide +kernel
theorem dL_refuses_245 : decode cL_refuses 245 = .ok (.aload_n 0, 1) := by decide +kernel
theorem dL_refuses_246 : decode cL_refuses 246 = .ok (.iload_n 1, 1) := by decide +kernel
theorem dL_refuses_247 : decode cL_refuses 247 = .ok (.invokestatic 256, 3) := by decide +kernel
theorem dL_refuses_250 : decode cL_refuses 250 = .ok (.ldc2_w 33, 3) := by decide +kernel
theorem dL_refuses_253 : decode cL_refuses 253 = .ok (.lcmp, 1) := by decide +kernel
theorem dL_refuses_254 : decode cL_refuses 254 = .ok (.ifCond .ne 207, 3) := by decide +kernel
theorem dL_refuses_257 : decode cL_refuses 257 = .ok (.aload_n 0, 1) := by decide +kernel
theorem dL_refuses_258 : decode cL_refuses 258 = .ok (.iconst (-1), 1) := by decide +kernel
theorem dL_refuses_259 : decode cL_refuses 259 = .ok (.invokestatic 258, 3) := by decide +kernel
theorem dL_refuses_262 : decode cL_refuses 262 = .ok (.ldc2_w 33, 3) := by decide +kernel
theorem dL_refuses_265 : decode cL_refuses 265 = .ok (.lcmp, 1) := by decide +kernel
theorem dL_refuses_266 : decode cL_refuses 266 = .ok (.ifCond .ne 195, 3) := by decide +kernel
theorem dL_refuses_269 : decode cL_refuses 269 = .ok (.aload_n 0, 1) := by decide +kernel
theorem dL_refuses_270 : decode cL_refuses 270 = .ok (.iload_n 1, 1) := by decide +kernel
theorem dL_refuses_271 : decode cL_refuses 271 = .ok (.iconst 3, 1) := by decide +kernel
theorem dL_refuses_272 : decode cL_refuses 272 = .ok (.iconst 0, 1) := by decide +kernel
theorem dL_refuses_273 : decode cL_refuses 273 = .ok (.invokestatic 260, 3) := by decide +kernel
theorem dL_refuses_276 : decode cL_refuses 276 = .ok (.ldc2_w 33, 3) := by decide +kernel
theorem dL_refuses_279 : decode cL_refuses 279 = .ok (.lcmp, 1) := by decide +kernel
theorem dL_refuses_280 : decode cL_refuses 280 = .ok (.ifCond .ne 181, 3) := by decide +kernel
theorem dL_refuses_283 : decode cL_refuses 283 = .ok (.aload_n 0, 1) := by decide +kernel
theorem dL_refuses_284 : decode cL_refuses 284 = .ok (.iload_n 1, 1) := by decide +kernel
theorem dL_refuses_285 : decode cL_refuses 285 = .ok (.invokestatic 262, 3) := by decide +kernel
theorem dL_refuses_288 : decode cL_refuses 288 = .ok (.ldc2_w 33, 3) := by decide +kernel
theorem dL_refuses_291 : decode cL_refuses 291 = .ok (.lcmp, 1) := by decide +kernel
theorem dL_refuses_292 : decode cL_refuses 292 = .ok (.ifCond .ne 169, 3) := by decide +kernel
theorem dL_refuses_295 : decode cL_refuses 295 = .ok (.aload_n 0, 1) := by decide +kernel
theorem dL_refuses_296 : decode cL_refuses 296 = .ok (.iload_n 1, 1) := by decide +kernel
theorem dL_refuses_297 : decode cL_refuses 297 = .ok (.iconst 0, 1) := by decide +kernel
theorem dL_refuses_298 : decode cL_refuses 298 = .ok (.invokestatic 264, 3) := by decide +kernel
theorem dL_refuses_301 : decode cL_refuses 301 = .ok (.ldc2_w 33, 3) := by decide +kernel
theorem dL_refuses_304 : decode cL_refuses 304 = .ok (.lcmp, 1) := by decide +kernel
theorem dL_refuses_305 : decode cL_refuses 305 = .ok (.ifCond .ne 156, 3) := by decide +kernel
theorem dL_refuses_308 : decode cL_refuses 308 = .ok (.aload_n 0, 1) := by decide +kernel
theorem dL_refuses_309 : decode cL_refuses 309 = .ok (.bipush 8, 2) := by decide +kernel
theorem dL_refuses_311 : decode cL_refuses 311 = .ok (.iconst 1, 1) := by decide +kernel
theorem dL_refuses_312 : decode cL_refuses 312 = .ok (.invokestatic 266, 3) := by decide +kernel
theorem dL_refuses_315 : decode cL_refuses 315 = .ok (.ldc2_w 33, 3) := by decide +kernel
theorem dL_refuses_318 : decode cL_refuses 318 = .ok (.lcmp, 1) := by decide +kernel
theorem dL_refuses_319 : decode cL_refuses 319 = .ok (.ifCond .ne 142, 3) := by decide +kernel
theorem dL_refuses_322 : decode cL_refuses 322 = .ok (.aload_n 0, 1) := by decide +kernel
theorem dL_refuses_323 : decode cL_refuses 323 = .ok (.iload_n 2, 1) := by decide +kernel
theorem dL_refuses_324 : decode cL_refuses 324 = .ok (.invokestatic 269, 3) := by decide +kernel
theorem dL_refuses_327 : decode cL_refuses 327 = .ok (.ldc2_w 33, 3) := by decide +kernel
theorem dL_refuses_330 : decode cL_refuses 330 = .ok (.lcmp, 1) := by decide +kernel
theorem dL_refuses_331 : decode cL_refuses 331 = .ok (.ifCond .ne 130, 3) := by decide +kernel
theorem dL_refuses_334 : decode cL_refuses 334 = .ok (.aload_n 0, 1) := by decide +kernel
theorem dL_refuses_335 : decode cL_refuses 335 = .ok (.iconst (-1), 1) := by decide +kernel
theorem dL_refuses_336 : decode cL_refuses 336 = .ok (.invokestatic 271, 3) := by decide +kernel
theorem dL_refuses_339 : decode cL_refuses 339 = .ok (.ldc2_w 33, 3) := by decide +kernel
theorem dL_refuses_342 : decode cL_refuses 342 = .ok (.lcmp, 1) := by decide +kernel
theorem dL_refuses_343 : decode cL_refuses 343 = .ok (.ifCond .ne 118, 3) := by decide +kernel
theorem dL_refuses_346 : decode cL_refuses 346 = .ok (.aload_n 0, 1) := by decide +kernel
theorem dL_refuses_347 : decode cL_refuses 347 = .ok (.iconst 3, 1) := by decide +kernel
theorem dL_refuses_348 : decode cL_refuses 348 = .ok (.iconst 0, 1) := by decide +kernel
theorem dL_refuses_349 : decode cL_refuses 349 = .ok (.iconst 1, 1) := by decide +kernel
theorem dL_refuses_350 : decode cL_refuses 350 = .ok (.invokestatic 273, 3) := by decide +kernel
theorem dL_refuses_353 : decode cL_refuses 353 = .ok (.ldc2_w 33, 3) := by decide +kernel
theorem dL_refuses_356 : decode cL_refuses 356 = .ok (.lcmp, 1) := by decide +kernel
theorem dL_refuses_357 : decode cL_refuses 357 = .ok (.ifCond .ne 104, 3) := by decide +kernel
theorem dL_refuses_360 : decode cL_refuses 360 = .ok (.aload_n 0, 1) := by decide +kernel
theorem dL_refuses_361 : decode cL_refuses 361 = .ok (.iconst 0, 1) := by decide +kernel
theorem dL_refuses_362 : decode cL_refuses 362 = .ok (.iload_n 1, 1) := by decide +kernel
theorem dL_refuses_363 : decode cL_refuses 363 = .ok (.iconst 0, 1) := by decide +kernel
theorem dL_refuses_364 : decode cL_refuses 364 = .ok (.invokestatic 273, 3) := by decide +kernel
theorem dL_refuses_367 : decode cL_refuses 367 = .ok (.ldc2_w 33, 3) := by decide +kernel
theorem dL_refuses_370 : decode cL_refuses 370 = .ok (.lcmp, 1) := by decide +kernel
theorem dL_refuses_371 : decode cL_refuses 371 = .ok (.ifCond .ne 90, 3) := by decide +kernel
theorem dL_refuses_374 : decode cL_refuses 374 = .ok (.aload_n 0, 1) := by decide +kernel
theorem dL_refuses_375 : decode cL_refuses 375 = .ok (.bipush 8, 2) := by decide +kernel
theorem dL_refuses_377 : decode cL_refuses 377 = .ok (.iconst 0, 1) := by decide +kernel
theorem dL_refuses_378 : decode cL_refuses 378 = .ok (.iconst 0, 1) := by decide +kernel
theorem dL_refuses_379 : decode cL_refuses 379 = .ok (.invokestatic 275, 3) := by decide +kernel
theorem dL_refuses_382 : decode cL_refuses 382 = .ok (.ldc2_w 33, 3) := by decide +kernel
theorem dL_refuses_385 : decode cL_refuses 385 = .ok (.lcmp, 1) := by decide +kernel
theorem dL_refuses_386 : decode cL_refuses 386 = .ok (.ifCond .ne 75, 3) := by decide +kernel
theorem dL_refuses_389 : decode cL_refuses 389 = .ok (.aload_n 0, 1) := by decide +kernel
theorem dL_refuses_390 : decode cL_refuses 390 = .ok (.bipush 40, 2) := by decide +kernel
theorem dL_refuses_392 : decode cL_refuses 392 = .ok (.invokestatic 277, 3) := by decide +kernel
theorem dL_refuses_395 : decode cL_refuses 395 = .ok (.ldc2_w 33, 3) := by decide +kernel
theorem dL_refuses_398 : decode cL_refuses 398 = .ok (.lcmp, 1) := by decide +kernel
theorem dL_refuses_399 : decode cL_refuses 399 = .ok (.ifCond .ne 62, 3) := by decide +kernel
theorem dL_refuses_402 : decode cL_refuses 402 = .ok (.aload_n 0, 1) := by decide +kernel
theorem dL_refuses_403 : decode cL_refuses 403 = .ok (.bipush 40, 2) := by decide +kernel
theorem dL_refuses_405 : decode cL_refuses 405 = .ok (.invokestatic 280, 3) := by decide +kernel
theorem dL_refuses_408 : decode cL_refuses 408 = .ok (.ldc2_w 33, 3) := by decide +kernel
theorem dL_refuses_411 : decode cL_refuses 411 = .ok (.lcmp, 1) := by decide +kernel
theorem dL_refuses_412 : decode cL_refuses 412 = .ok (.ifCond .ne 49, 3) := by decide +kernel
theorem dL_refuses_415 : decode cL_refuses 415 = .ok (.aload_n 0, 1) := by decide +kernel
theorem dL_refuses_416 : decode cL_refuses 416 = .ok (.iconst 0, 1) := by decide +kernel
theorem dL_refuses_417 : decode cL_refuses 417 = .ok (.iconst 2, 1) := by decide +kernel
theorem dL_refuses_418 : decode cL_refuses 418 = .ok (.iconst 0, 1) := by decide +kernel
theorem dL_refuses_419 : decode cL_refuses 419 = .ok (.invokestatic 282, 3) := by decide +kernel
theorem dL_refuses_422 : decode cL_refuses 422 = .ok (.ldc2_w 33, 3) := by decide +kernel
theorem dL_refuses_425 : decode cL_refuses 425 = .ok (.lcmp, 1) := by decide +kernel
theorem dL_refuses_426 : decode cL_refuses 426 = .ok (.ifCond .ne 35, 3) := by decide +kernel
theorem dL_refuses_429 : decode cL_refuses 429 = .ok (.aload_n 0, 1) := by decide +kernel
theorem dL_refuses_430 : decode cL_refuses 430 = .ok (.iconst 0, 1) := by decide +kernel
theorem dL_refuses_431 : decode cL_refuses 431 = .ok (.bipush 14, 2) := by decide +kernel
theorem dL_refuses_433 : decode cL_refuses 433 = .ok (.invokestatic 284, 3) := by decide +kernel
theorem dL_refuses_436 : decode cL_refuses 436 = .ok (.ldc2_w 33, 3) := by decide +kernel
theorem dL_refuses_439 : decode cL_refuses 439 = .ok (.lcmp, 1) := by decide +kernel
theorem dL_refuses_440 : decode cL_refuses 440 = .ok (.ifCond .ne 21, 3) := by decide +kernel
theorem dL_refuses_443 : decode cL_refuses 443 = .ok (.aload_n 0, 1) := by decide +kernel
theorem dL_refuses_444 : decode cL_refuses 444 = .ok (.iconst 0, 1) := by decide +kernel
theorem dL_refuses_445 : decode cL_refuses 445 = .ok (.bipush 7, 2) := by decide +kernel
theorem dL_refuses_447 : decode cL_refuses 447 = .ok (.invokestatic 286, 3) := by decide +kernel
theorem dL_refuses_450 : decode cL_refuses 450 = .ok (.ldc2_w 33, 3) := by decide +kernel
theorem dL_refuses_453 : decode cL_refuses 453 = .ok (.lcmp, 1) := by decide +kernel
theorem dL_refuses_454 : decode cL_refuses 454 = .ok (.ifCond .ne 7, 3) := by decide +kernel
theorem dL_refuses_457 : decode cL_refuses 457 = .ok (.iconst 1, 1) := by decide +kernel
theorem dL_refuses_458 : decode cL_refuses 458 = .ok (.goto 4, 3) := by decide +kernel
theorem dL_refuses_461 : decode cL_refuses 461 = .ok (.iconst 0, 1) := by decide +kernel
theorem dL_refuses_462 : decode cL_refuses 462 = .ok (.istore 4, 2) := by decide +kernel
theorem dL_refuses_464 : decode cL_refuses 464 = .ok (.iload 4, 2) := by decide +kernel
theorem dL_refuses_466 : decode cL_refuses 466 = .ok (.ifCond .eq 182, 3) := by decide +kernel
theorem dL_refuses_469 : decode cL_refuses 469 = .ok (.aload_n 0, 1) := by decide +kernel
theorem dL_refuses_470 : decode cL_refuses 470 = .ok (.iconst 0, 1) := by decide +kernel
theorem dL_refuses_471 : decode cL_refuses 471 = .ok (.bipush 16, 2) := by decide +kernel
theorem dL_refuses_473 : decode cL_refuses 473 = .ok (.invokestatic 288, 3) := by decide +kernel
theorem dL_refuses_476 : decode cL_refuses 476 = .ok (.ldc2_w 33, 3) := by decide +kernel
theorem dL_refuses_479 : decode cL_refuses 479 = .ok (.lcmp, 1) := by decide +kernel
theorem dL_refuses_480 : decode cL_refuses 480 = .ok (.ifCond .ne 168, 3) := by decide +kernel
theorem dL_refuses_483 : decode cL_refuses 483 = .ok (.aload_n 0, 1) := by decide +kernel
theorem dL_refuses_484 : decode cL_refuses 484 = .ok (.bipush 12, 2) := by decide +kernel
theorem dL_refuses_486 : decode cL_refuses 486 = .ok (.iconst 0, 1) := by decide +kernel
theorem dL_refuses_487 : decode cL_refuses 487 = .ok (.iconst 0, 1) := by decide +kernel
theorem dL_refuses_488 : decode cL_refuses 488 = .ok (.invokestatic 290, 3) := by decide +kernel
theorem dL_refuses_491 : decode cL_refuses 491 = .ok (.ldc2_w 33, 3) := by decide +kernel
theorem dL_refuses_494 : decode cL_refuses 494 = .ok (.lcmp, 1) := by decide +kernel
theorem dL_refuses_495 : decode cL_refuses 495 = .ok (.ifCond .ne 153, 3) := by decide +kernel
theorem dL_refuses_498 : decode cL_refuses 498 = .ok (.aload_n 0, 1) := by decide +kernel
theorem dL_refuses_499 : decode cL_refuses 499 = .ok (.bipush 12, 2) := by decide +kernel
theorem dL_refuses_501 : decode cL_refuses 501 = .ok (.iconst 0, 1) := by decide +kernel
theorem dL_refuses_502 : decode cL_refuses 502 = .ok (.invokestatic 292, 3) := by decide +kernel
theorem dL_refuses_505 : decode cL_refuses 505 = .ok (.ldc2_w 33, 3) := by decide +kernel
theorem dL_refuses_508 : decode cL_refuses 508 = .ok (.lcmp, 1) := by decide +kernel
theorem dL_refuses_509 : decode cL_refuses 509 = .ok (.ifCond .ne 139, 3) := by decide +kernel
theorem dL_refuses_512 : decode cL_refuses 512 = .ok (.aload_n 0, 1) := by decide +kernel
theorem dL_refuses_513 : decode cL_refuses 513 = .ok (.iconst 0, 1) := by decide +kernel
theorem dL_refuses_514 : decode cL_refuses 514 = .ok (.iconst 2, 1) := by decide +kernel
theorem dL_refuses_515 : decode cL_refuses 515 = .ok (.iconst 1, 1) := by decide +kernel
theorem dL_refuses_516 : decode cL_refuses 516 = .ok (.invokestatic 294, 3) := by decide +kernel
theorem dL_refuses_519 : decode cL_refuses 519 = .ok (.ldc2_w 33, 3) := by decide +kernel
theorem dL_refuses_522 : decode cL_refuses 522 = .ok (.lcmp, 1) := by decide +kernel
theorem dL_refuses_523 : decode cL_refuses 523 = .ok (.ifCond .ne 125, 3) := by decide +kernel
theorem dL_refuses_526 : decode cL_refuses 526 = .ok (.aload_n 0, 1) := by decide +kernel
theorem dL_refuses_527 : decode cL_refuses 527 = .ok (.bipush 12, 2) := by decide +kernel
theorem dL_refuses_529 : decode cL_refuses 529 = .ok (.invokestatic 296, 3) := by decide +kernel
theorem dL_refuses_532 : decode cL_refuses 532 = .ok (.ldc2_w 33, 3) := by decide +kernel
theorem dL_refuses_535 : decode cL_refuses 535 = .ok (.lcmp, 1) := by decide +kernel
theorem dL_refuses_536 : decode cL_refuses 536 = .ok (.ifCond .ne 112, 3) := by decide +kernel
theorem dL_refuses_539 : decode cL_refuses 539 = .ok (.aload_n 0, 1) := by decide +kernel
theorem dL_refuses_540 : decode cL_refuses 540 = .ok (.iload_n 2, 1) := by decide +kernel
theorem dL_refuses_541 : decode cL_refuses 541 = .ok (.iconst 1, 1) := by decide +kernel
theorem dL_refuses_542 : decode cL_refuses 542 = .ok (.invokestatic 299, 3) := by decide +kernel
theorem dL_refuses_545 : decode cL_refuses 545 = .ok (.ldc2_w 33, 3) := by decide +kernel
theorem dL_refuses_548 : decode cL_refuses 548 = .ok (.lcmp, 1) := by decide +kernel
theorem dL_refuses_549 : decode cL_refuses 549 = .ok (.ifCond .ne 99, 3) := by decide +kernel
theorem dL_refuses_552 : decode cL_refuses 552 = .ok (.aload_n 0, 1) := by decide +kernel
theorem dL_refuses_553 : decode cL_refuses 553 = .ok (.iload_n 2, 1) := by decide +kernel
theorem dL_refuses_554 : decode cL_refuses 554 = .ok (.iconst 0, 1) := by decide +kernel
theorem dL_refuses_555 : decode cL_refuses 555 = .ok (.iconst 0, 1) := by decide +kernel
theorem dL_refuses_556 : decode cL_refuses 556 = .ok (.invokestatic 221, 3) := by decide +kernel
theorem dL_refuses_559 : decode cL_refuses 559 = .ok (.ldc2_w 33, 3) := by decide +kernel
theorem dL_refuses_562 : decode cL_refuses 562 = .ok (.lcmp, 1) := by decide +kernel
theorem dL_refuses_563 : decode cL_refuses 563 = .ok (.ifCond .ne 85, 3) := by decide +kernel
theorem dL_refuses_566 : decode cL_refuses 566 = .ok (.aload_n 0, 1) := by decide +kernel
theorem dL_refuses_567 : decode cL_refuses 567 = .ok (.iload_n 1, 1) := by decide +kernel
theorem dL_refuses_568 : decode cL_refuses 568 = .ok (.invokestatic 301, 3) := by decide +kernel
theorem dL_refuses_571 : decode cL_refuses 571 = .ok (.ldc2_w 33, 3) := by decide +kernel
theorem dL_refuses_574 : decode cL_refuses 574 = .ok (.lcmp, 1) := by decide +kernel
theorem dL_refuses_575 : decode cL_refuses 575 = .ok (.ifCond .ne 73, 3) := by decide +kernel
theorem dL_refuses_578 : decode cL_refuses 578 = .ok (.aload_n 0, 1) := by decide +kernel
theorem dL_refuses_579 : decode cL_refuses 579 = .ok (.iload_n 1, 1) := by decide +kernel
theorem dL_refuses_580 : decode cL_refuses 580 = .ok (.iconst 0, 1) := by decide +kernel
theorem dL_refuses_581 : decode cL_refuses 581 = .ok (.iconst 1, 1) := by decide +kernel
theorem dL_refuses_582 : decode cL_refuses 582 = .ok (.invokestatic 303, 3) := by decide +kernel
theorem dL_refuses_585 : decode cL_refuses 585 = .ok (.ldc2_w 33, 3) := by decide +kernel
theorem dL_refuses_588 : decode cL_refuses 588 = .ok (.lcmp, 1) := by decide +kernel
theorem dL_refuses_589 : decode cL_refuses 589 = .ok (.ifCond .ne 59, 3) := by decide +kernel
theorem dL_refuses_592 : decode cL_refuses 592 = .ok (.aload_n 0, 1) := by decide +kernel
theorem dL_refuses_593 : decode cL_refuses 593 = .ok (.iconst 0, 1) := by decide +kernel
theorem dL_refuses_594 : decode cL_refuses 594 = .ok (.bipush 16, 2) := by decide +kernel
theorem dL_refuses_596 : decode cL_refuses 596 = .ok (.invokestatic 305, 3) := by decide +kernel
theorem dL_refuses_599 : decode cL_refuses 599 = .ok (.ldc2_w 33, 3) := by decide +kernel
theorem dL_refuses_602 : decode cL_refuses 602 = .ok (.lcmp, 1) := by decide +kernel
theorem dL_refuses_603 : decode cL_refuses 603 = .ok (.ifCond .ne 45, 3) := by decide +kernel
theorem dL_refuses_606 : decode cL_refuses 606 = .ok (.aload_n 0, 1) := by decide +kernel
theorem dL_refuses_607 : decode cL_refuses 607 = .ok (.iconst 4, 1) := by decide +kernel
theorem dL_refuses_608 : decode cL_refuses 608 = .ok (.iconst 0, 1) := by decide +kernel
theorem dL_refuses_609 : decode cL_refuses 609 = .ok (.invokestatic 199, 3) := by decide +kernel
theorem dL_refuses_612 : decode cL_refuses 612 = .ok (.ldc2_w 33, 3) := by decide +kernel
theorem dL_refuses_615 : decode cL_refuses 615 = .ok (.lcmp, 1) := by decide +kernel
theorem dL_refuses_616 : decode cL_refuses 616 = .ok (.ifCond .ne 32, 3) := by decide +kernel
theorem dL_refuses_619 : decode cL_refuses 619 = .ok (.aload_n 0, 1) := by decide +kernel
theorem dL_refuses_620 : decode cL_refuses 620 = .ok (.iconst (-1), 1) := by decide +kernel
theorem dL_refuses_621 : decode cL_refuses 621 = .ok (.iconst 0, 1) := by decide +kernel
theorem dL_refuses_622 : decode cL_refuses 622 = .ok (.invokestatic 202, 3) := by decide +kernel
theorem dL_refuses_625 : decode cL_refuses 625 = .ok (.ldc2_w 33, 3) := by decide +kernel
theorem dL_refuses_628 : decode cL_refuses 628 = .ok (.lcmp, 1) := by decide +kernel
theorem dL_refuses_629 : decode cL_refuses 629 = .ok (.ifCond .ne 19, 3) := by decide +kernel
theorem dL_refuses_632 : decode cL_refuses 632 = .ok (.aload_n 0, 1) := by decide +kernel
theorem dL_refuses_633 : decode cL_refuses 633 = .ok (.iload_n 1, 1) := by decide +kernel
theorem dL_refuses_634 : decode cL_refuses 634 = .ok (.invokestatic 307, 3) := by decide +kernel
theorem dL_refuses_637 : decode cL_refuses 637 = .ok (.ldc2_w 33, 3) := by decide +kernel
theorem dL_refuses_640 : decode cL_refuses 640 = .ok (.lcmp, 1) := by decide +kernel
theorem dL_refuses_641 : decode cL_refuses 641 = .ok (.ifCond .ne 7, 3) := by decide +kernel
theorem dL_refuses_644 : decode cL_refuses 644 = .ok (.iconst 1, 1) := by decide +kernel
theorem dL_refuses_645 : decode cL_refuses 645 = .ok (.goto 4, 3) := by decide +kernel
theorem dL_refuses_648 : decode cL_refuses 648 = .ok (.iconst 0, 1) := by decide +kernel
theorem dL_refuses_649 : decode cL_refuses 649 = .ok (.istore 4, 2) := by decide +kernel
theorem dL_refuses_651 : decode cL_refuses 651 = .ok (.iload 4, 2) := by decide +kernel
theorem dL_refuses_653 : decode cL_refuses 653 = .ok (.ifCond .eq 23, 3) := by decide +kernel
theorem dL_refuses_656 : decode cL_refuses 656 = .ok (.aload_n 0, 1) := by decide +kernel
theorem dL_refuses_657 : decode cL_refuses 657 = .ok (.invokevirtual 206, 3) := by decide +kernel
theorem dL_refuses_660 : decode cL_refuses 660 = .ok (.iload_n 2, 1) := by decide +kernel
theorem dL_refuses_661 : decode cL_refuses 661 = .ok (.if_icmp .ne 15, 3) := by decide +kernel
theorem dL_refuses_664 : decode cL_refuses 664 = .ok (.aload_n 0, 1) := by decide +kernel
theorem dL_refuses_665 : decode cL_refuses 665 = .ok (.invokevirtual 214, 3) := by decide +kernel
theorem dL_refuses_668 : decode cL_refuses 668 = .ok (.iload_n 3, 1) := by decide +kernel
theorem dL_refuses_669 : decode cL_refuses 669 = .ok (.if_icmp .ne 7, 3) := by decide +kernel
theorem dL_refuses_672 : decode cL_refuses 672 = .ok (.iconst 1, 1) := by decide +kernel
theorem dL_refuses_673 : decode cL_refuses 673 = .ok (.goto 4, 3) := by decide +kernel
theorem dL_refuses_676 : decode cL_refuses 676 = .ok (.iconst 0, 1) := by decide +kernel
theorem dL_refuses_677 : decode cL_refuses 677 = .ok (.ireturn, 1) := by decide +kernel
theorem dL_steps_0 : decode cL_steps 0 = .ok (.aload_n 0, 1) := by decide +kernel
theorem dL_steps_1 : decode cL_steps 1 = .ok (.invokevirtual 206, 3) := by decide +kernel
theorem dL_steps_4 : decode cL_steps 4 = .ok (.istore 4, 2) := by decide +kernel
theorem dL_steps_6 : decode cL_steps 6 = .ok (.aload_n 0, 1) := by decide +kernel
theorem dL_steps_7 : decode cL_steps 7 = .ok (.iload_n 1, 1) := by decide +kernel
theorem dL_steps_8 : decode cL_steps 8 = .ok (.invokestatic 182, 3) := by decide +kernel
theorem dL_steps_11 : decode cL_steps 11 = .ok (.lstore 5, 2) := by decide +kernel
theorem dL_steps_13 : decode cL_steps 13 = .ok (.aload_n 0, 1) := by decide +kernel
theorem dL_steps_14 : decode cL_steps 14 = .ok (.iload_n 1, 1) := by decide +kernel
theorem dL_steps_15 : decode cL_steps 15 = .ok (.invokestatic 193, 3) := by decide +kernel
theorem dL_steps_18 : decode cL_steps 18 = .ok (.lstore 7, 2) := by decide +kernel
theorem dL_steps_20 : decode cL_steps 20 = .ok (.ldc2_w 21, 3) := by decide +kernel
theorem dL_steps_23 : decode cL_steps 23 = .ok (.lstore 9, 2) := by decide +kernel
theorem dL_steps_25 : decode cL_steps 25 = .ok (.iconst 1, 1) := by decide +kernel
theorem dL_steps_26 : decode cL_steps 26 = .ok (.istore 11, 2) := by decide +kernel
theorem dL_steps_28 : decode cL_steps 28 = .ok (.iload_n 2, 1) := by decide +kernel
theorem dL_steps_29 : decode cL_steps 29 = .ok (.ifCond .ne 16, 3) := by decide +kernel
theorem dL_steps_32 : decode cL_steps 32 = .ok (.aload_n 0, 1) := by decide +kernel
theorem dL_steps_33 : decode cL_steps 33 = .ok (.iload_n 1, 1) := by decide +kernel
theorem dL_steps_34 : decode cL_steps 34 = .ok (.iload_n 3, 1) := by decide +kernel
theorem dL_steps_35 : decode cL_steps 35 = .ok (.iconst 3, 1) := by decide +kernel
theorem dL_steps_36 : decode cL_steps 36 = .ok (.irem, 1) := by decide +kernel
theorem dL_steps_37 : decode cL_steps 37 = .ok (.invokestatic 244, 3) := by decide +kernel
theorem dL_steps_40 : decode cL_steps 40 = .ok (.lstore 9, 2) := by decide +kernel
theorem dL_steps_42 : decode cL_steps 42 = .ok (.goto 685, 3) := by decide +kernel
theorem dL_steps_45 : decode cL_steps 45 = .ok (.iload_n 2, 1) := by decide +kernel
theorem dL_steps_46 : decode cL_steps 46 = .ok (.iconst 1, 1) := by decide +kernel
theorem dL_steps_47 : decode cL_steps 47 = .ok (.if_icmp .ne 58, 3) := by decide +kernel
theorem dL_steps_50 : decode cL_steps 50 = .ok (.aload_n 0, 1) := by decide +kernel
theorem dL_steps_51 : decode cL_steps 51 = .ok (.iload_n 1, 1) := by decide +kernel
theorem dL_steps_52 : decode cL_steps 52 = .ok (.invokestatic 246, 3) := by decide +kernel
theorem dL_steps_55 : decode cL_steps 55 = .ok (.lstore 9, 2) := by decide +kernel
theorem dL_steps_57 : decode cL_steps 57 = .ok (.lload 9, 2) := by decide +kernel
theorem dL_steps_59 : decode cL_steps 59 = .ok (.ldc2_w 21, 3) := by decide +kernel
theorem dL_steps_62 : decode cL_steps 62 = .ok (.lcmp, 1) := by decide +kernel
theorem dL_steps_63 : decode cL_steps 63 = .ok (.ifCond .eq 32, 3) := by decide +kernel
theorem dL_steps_66 : decode cL_steps 66 = .ok (.aload_n 0, 1) := by decide +kernel
theorem dL_steps_67 : decode cL_steps 67 = .ok (.iload_n 1, 1) := by decide +kernel
theorem dL_steps_68 : decode cL_steps 68 = .ok (.invokestatic 307, 3) := by decide +kernel
theorem dL_steps_71 : decode cL_steps 71 = .ok (.lconst 1, 1) := by decide +kernel
theorem dL_steps_72 : decode cL_steps 72 = .ok (.lcmp, 1) := by decide +kernel
theorem dL_steps_73 : decode cL_steps 73 = .ok (.ifCond .ne 26, 3) := by decide +kernel
theorem dL_steps_76 : decode cL_steps 76 = .ok (.lload 5, 2) := by decide +kernel
theorem dL_steps_78 : decode cL_steps 78 = .ok (.lconst 0, 1) := by decide +kernel
theorem dL_steps_79 : decode cL_steps 79 = .ok (.lcmp, 1) := by decide +kernel
theorem dL_steps_80 : decode cL_steps 80 = .ok (.ifCond .ne 19, 3) := by decide +kernel
theorem dL_steps_83 : decode cL_steps 83 = .ok (.aload_n 0, 1) := by decide +kernel
theorem dL_steps_84 : decode cL_steps 84 = .ok (.iload_n 1, 1) := by decide +kernel
theorem dL_steps_85 : decode cL_steps 85 = .ok (.invokestatic 246, 3) := by decide +kernel
theorem dL_steps_88 : decode cL_steps 88 = .ok (.ldc2_w 21, 3) := by decide +kernel
theorem dL_steps_91 : decode cL_steps 91 = .ok (.lcmp, 1) := by decide +kernel
theorem dL_steps_92 : decode cL_steps 92 = .ok (.ifCond .ne 7, 3) := by decide +kernel
theorem dL_steps_95 : decode cL_steps 95 = .ok (.iconst 1, 1) := by decide +kernel
theorem dL_steps_96 : decode cL_steps 96 = .ok (.goto 4, 3) := by decide +kernel
theorem dL_steps_99 : decode cL_steps 99 = .ok (.iconst 0, 1) := by decide +kernel
theorem dL_steps_100 : decode cL_steps 100 = .ok (.istore 11, 2) := by decide +kernel
theorem dL_steps_102 : decode cL_steps 102 = .ok (.goto 625, 3) := by decide +kernel
theorem dL_steps_105 : decode cL_steps 105 = .ok (.iload_n 2, 1) := by decide +kernel
theorem dL_steps_106 : decode cL_steps 106 = .ok (.iconst 2, 1) := by decide +kernel
theorem dL_steps_107 : decode cL_steps 107 = .ok (.if_icmp .ne 68, 3) := by decide +kernel
theorem dL_steps_110 : decode cL_steps 110 = .ok (.aload_n 0, 1) := by decide +kernel
theorem dL_steps_111 : decode cL_steps 111 = .ok (.iload_n 1, 1) := by decide +kernel
theorem dL_steps_112 : decode cL_steps 112 = .ok (.invokestatic 248, 3) := by decide +kernel
theorem dL_steps_115 : decode cL_steps 115 = .ok (.lstore 9, 2) := by decide +kernel
theorem dL_steps_117 : decode cL_steps 117 = .ok (.lload 9, 2) := by decide +kernel
theorem dL_steps_119 : decode cL_steps 119 = .ok (.ldc2_w 21, 3) := by decide +kernel
theorem dL_steps_122 : decode cL_steps 122 = .ok (.lcmp, 1) := by decide +kernel
theorem dL_steps_123 : decode cL_steps 123 = .ok (.ifCond .eq 42, 3) := by decide +kernel
theorem dL_steps_126 : decode cL_steps 126 = .ok (.aload_n 0, 1) := by decide +kernel
theorem dL_steps_127 : decode cL_steps 127 = .ok (.iconst 0, 1) := by decide +kernel
theorem dL_steps_128 : decode cL_steps 128 = .ok (.iload_n 1, 1) := by decide +kernel
theorem dL_steps_129 : decode cL_steps 129 = .ok (.invokestatic 199, 3) := by decide +kernel
theorem dL_steps_132 : decode cL_steps 132 = .ok (.ldc2_w 204, 3) := by decide +kernel
theorem dL_steps_135 : decode cL_steps 135 = .ok (.lcmp, 1) := by decide +kernel
theorem dL_steps_136 : decode cL_steps 136 = .ok (.ifCond .ne 33, 3) := by decide +kernel
theorem dL_steps_139 : decode cL_steps 139 = .ok (.aload_n 0, 1) := by decide +kernel
theorem dL_steps_140 : decode cL_steps 140 = .ok (.iload_n 1, 1) := by decide +kernel
theorem dL_steps_141 : decode cL_steps 141 = .ok (.invokestatic 248, 3) := by decide +kernel
theorem dL_steps_144 : decode cL_steps 144 = .ok (.ldc2_w 21, 3) := by decide +kernel
theorem dL_steps_147 : decode cL_steps 147 = .ok (.lcmp, 1) := by decide +kernel
theorem dL_steps_148 : decode cL_steps 148 = .ok (.ifCond .ne 21, 3) := by decide +kernel
theorem dL_steps_151 : decode cL_steps 151 = .ok (.aload_n 0, 1) := by decide +kernel
theorem dL_steps_152 : decode cL_steps 152 = .ok (.iload 4, 2) := by decide +kernel
theorem dL_steps_154 : decode cL_steps 154 = .ok (.iconst 0, 1) := by decide +kernel
theorem dL_steps_155 : decode cL_steps 155 = .ok (.invokestatic 252, 3) := by decide +kernel
theorem dL_steps_158 : decode cL_steps 158 = .ok (.ldc2_w 21, 3) := by decide +kernel
theorem dL_steps_161 : decode cL_steps 161 = .ok (.lcmp, 1) := by decide +kernel
theorem dL_steps_162 : decode cL_steps 162 = .ok (.ifCond .ne 7, 3) := by decide +kernel
theorem dL_steps_165 : decode cL_steps 165 = .ok (.iconst 1, 1) := by decide +kernel
theorem dL_steps_166 : decode cL_steps 166 = .ok (.goto 4, 3) := by decide +kernel
theorem dL_steps_169 : decode cL_steps 169 = .ok (.iconst 0, 1) := by decide +kernel
theorem dL_steps_170 : decode cL_steps 170 = .ok (.istore 11, 2) := by decide +kernel
theorem dL_steps_172 : decode cL_steps 172 = .ok (.goto 555, 3) := by decide +kernel
theorem dL_steps_175 : decode cL_steps 175 = .ok (.iload_n 2, 1) := by decide +kernel
theorem dL_steps_176 : decode cL_steps 176 = .ok (.iconst 3, 1) := by decide +kernel
theorem dL_steps_177 : decode cL_steps 177 = .ok (.if_icmp .ne 115, 3) := by decide +kernel
theorem dL_steps_180 : decode cL_steps 180 = .ok (.aload_n 0, 1) := by decide +kernel
theorem dL_steps_181 : decode cL_steps 181 = .ok (.iload_n 1, 1) := by decide +kernel
theorem dL_steps_182 : decode cL_steps 182 = .ok (.iload_n 3, 1) := by decide +kernel
theorem dL_steps_183 : decode cL_steps 183 = .ok (.iconst 3, 1) := by decide +kernel
theorem dL_steps_184 : decode cL_steps 184 = .ok (.irem, 1) := by decide +kernel
theorem dL_steps_185 : decode cL_steps 185 = .ok (.ifCond .ne 7, 3) := by decide +kernel
theorem dL_steps_188 : decode cL_steps 188 = .ok (.iconst (-1), 1) := by decide +kernel
theorem dL_steps_189 : decode cL_steps 189 = .ok (.goto 13, 3) := by decide +kernel
theorem dL_steps_192 : decode cL_steps 192 = .ok (.iload_n 3, 1) := by decide +kernel
theorem dL_steps_193 : decode cL_steps 193 = .ok (.iconst 3, 1) := by decide +kernel
theorem dL_steps_194 : decode cL_steps 194 = .ok (.idiv, 1) := by decide +kernel
theorem dL_steps_195 : decode cL_steps 195 = .ok (.i2l, 1) := by decide +kernel
theorem dL_steps_196 : decode cL_steps 196 = .ok (.lload 7, 2) := by decide +kernel
theorem dL_steps_198 : decode cL_steps 198 = .ok (.lconst 1, 1) := by decide +kernel
theorem dL_steps_199 : decode cL_steps 199 = .ok (.ladd, 1) := by decide +kernel
theorem dL_steps_200 : decode cL_steps 200 = .ok (.lrem, 1) := by decide +kernel
theorem dL_steps_201 : decode cL_steps 201 = .ok (.l2i, 1) := by decide +kernel
theorem dL_steps_202 : decode cL_steps 202 = .ok (.invokestatic 254, 3) := by decide +kernel
theorem dL_steps_205 : decode cL_steps 205 = .ok (.lstore 9, 2) := by decide +kernel
theorem dL_steps_207 : decode cL_steps 207 = .ok (.lload 9, 2) := by decide +kernel
theorem dL_steps_209 : decode cL_steps 209 = .ok (.ldc2_w 21, 3) := by decide +kernel
theorem dL_steps_212 : decode cL_steps 212 = .ok (.lcmp, 1) := by decide +kernel
theorem dL_steps_213 : decode cL_steps 213 = .ok (.ifCond .eq 69, 3) := by decide +kernel
theorem dL_steps_216 : decode cL_steps 216 = .ok (.lload 5, 2) := by decide +kernel
theorem dL_steps_218 : decode cL_steps 218 = .ok (.lconst 0, 1) := by decide +kernel
theorem dL_steps_219 : decode cL_steps 219 = .ok (.lcmp, 1) := by decide +kernel
theorem dL_steps_220 : decode cL_steps 220 = .ok (.ifCond .ne 66, 3) := by decide +kernel
theorem dL_steps_223 : decode cL_steps 223 = .ok (.aload_n 0, 1) := by decide +kernel
theorem dL_steps_224 : decode cL_steps 224 = .ok (.iload_n 1, 1) := by decide +kernel
theorem dL_steps_225 : decode cL_steps 225 = .ok (.invokestatic 182, 3) := by decide +kernel
theorem dL_steps_228 : decode cL_steps 228 = .ok (.ldc2_w 195, 3) := by decide +kernel
theorem dL_steps_231 : decode cL_steps 231 = .ok (.lcmp, 1) := by decide +kernel
theorem dL_steps_232 : decode cL_steps 232 = .ok (.ifCond .eq 13, 3) := by decide +kernel
theorem dL_steps_235 : decode cL_steps 235 = .ok (.aload_n 0, 1) := by decide +kernel
theorem dL_steps_236 : decode cL_steps 236 = .ok (.iload_n 1, 1) := by decide +kernel
theorem dL_steps_237 : decode cL_steps 237 = .ok (.invokestatic 182, 3) := by decide +kernel
theorem dL_steps_240 : decode cL_steps 240 = .ok (.lconst 1, 1) := by decide +kernel
theorem dL_steps_241 : decode cL_steps 241 = .ok (.lcmp, 1) := by decide +kernel
theorem dL_steps_242 : decode cL_steps 242 = .ok (.ifCond .ne 44, 3) := by decide +kernel
theorem dL_steps_245 : decode cL_steps 245 = .ok (.aload_n 0, 1) := by decide +kernel
theorem dL_steps_246 : decode cL_steps 246 = .ok (.iload_n 1, 1) := by decide +kernel
theorem dL_steps_247 : decode cL_steps 247 = .ok (.invokestatic 182, 3) := by decide +kernel
theorem dL_steps_250 : decode cL_steps 250 = .ok (.lconst 1, 1) := by decide +kernel
theorem dL_steps_251 : decode cL_steps 251 = .ok (.lcmp, 1) := by decide +kernel
theorem dL_steps_252 : decode cL_steps 252 = .ok (.ifCond .eq 30, 3) := by decide +kernel
theorem dL_steps_255 : decode cL_steps 255 = .ok (.aload_n 0, 1) := by decide +kernel
theorem dL_steps_256 : decode cL_steps 256 = .ok (.iload_n 1, 1) := by decide +kernel
theorem dL_steps_257 : decode cL_steps 257 = .ok (.invokestatic 187, 3) := by decide +kernel
theorem dL_steps_260 : decode cL_steps 260 = .ok (.aload_n 0, 1) := by decide +kernel
theorem dL_steps_261 : decode cL_steps 261 = .ok (.iload_n 1, 1) := by decide +kernel
theorem dL_steps_262 : decode cL_steps 262 = .ok (.invokestatic 193, 3) := by decide +kernel
theorem dL_steps_265 : decode cL_steps 265 = .ok (.lcmp, 1) := by decide +kernel
theorem dL_steps_266 : decode cL_steps 266 = .ok (.ifCond .ne 20, 3) := by decide +kernel
theorem dL_steps_269 : decode cL_steps 269 = .ok (.aload_n 0, 1) := by decide +kernel
theorem dL_steps_270 : decode cL_steps 270 = .ok (.iconst 2, 1) := by decide +kernel
theorem dL_steps_271 : decode cL_steps 271 = .ok (.iload_n 1, 1) := by decide +kernel
theorem dL_steps_272 : decode cL_steps 272 = .ok (.invokestatic 199, 3) := by decide +kernel
theorem dL_steps_275 : decode cL_steps 275 = .ok (.ldc2_w 33, 3) := by decide +kernel
theorem dL_steps_278 : decode cL_steps 278 = .ok (.lcmp, 1) := by decide +kernel
theorem dL_steps_279 : decode cL_steps 279 = .ok (.ifCond .eq 7, 3) := by decide +kernel
theorem dL_steps_282 : decode cL_steps 282 = .ok (.iconst 1, 1) := by decide +kernel
theorem dL_steps_283 : decode cL_steps 283 = .ok (.goto 4, 3) := by decide +kernel
theorem dL_steps_286 : decode cL_steps 286 = .ok (.iconst 0, 1) := by decide +kernel
theorem dL_steps_287 : decode cL_steps 287 = .ok (.istore 11, 2) := by decide +kernel
theorem dL_steps_289 : decode cL_steps 289 = .ok (.goto 438, 3) := by decide +kernel
theorem dL_steps_292 : decode cL_steps 292 = .ok (.iload_n 2, 1) := by decide +kernel
theorem dL_steps_293 : decode cL_steps 293 = .ok (.iconst 4, 1) := by decide +kernel
theorem dL_steps_294 : decode cL_steps 294 = .ok (.if_icmp .ne 49, 3) := by decide +kernel
theorem dL_steps_297 : decode cL_steps 297 = .ok (.aload_n 0, 1) := by decide +kernel
theorem dL_steps_298 : decode cL_steps 298 = .ok (.iload_n 1, 1) := by decide +kernel
theorem dL_steps_299 : decode cL_steps 299 = .ok (.invokestatic 256, 3) := by decide +kernel
theorem dL_steps_302 : decode cL_steps 302 = .ok (.lstore 9, 2) := by decide +kernel
theorem dL_steps_304 : decode cL_steps 304 = .ok (.lload 9, 2) := by decide +kernel
theorem dL_steps_306 : decode cL_steps 306 = .ok (.ldc2_w 21, 3) := by decide +kernel
theorem dL_steps_309 : decode cL_steps 309 = .ok (.lcmp, 1) := by decide +kernel
theorem dL_steps_310 : decode cL_steps 310 = .ok (.ifCond .eq 23, 3) := by decide +kernel
theorem dL_steps_313 : decode cL_steps 313 = .ok (.aload_n 0, 1) := by decide +kernel
theorem dL_steps_314 : decode cL_steps 314 = .ok (.iload_n 1, 1) := by decide +kernel
theorem dL_steps_315 : decode cL_steps 315 = .ok (.invokestatic 182, 3) := by decide +kernel
theorem dL_steps_318 : decode cL_steps 318 = .ok (.lconst 0, 1) := by decide +kernel
theorem dL_steps_319 : decode cL_steps 319 = .ok (.lcmp, 1) := by decide +kernel
theorem dL_steps_320 : decode cL_steps 320 = .ok (.ifCond .ne 17, 3) := by decide +kernel
theorem dL_steps_323 : decode cL_steps 323 = .ok (.aload_n 0, 1) := by decide +kernel
theorem dL_steps_324 : decode cL_steps 324 = .ok (.iload_n 1, 1) := by decide +kernel
theorem dL_steps_325 : decode cL_steps 325 = .ok (.invokestatic 193, 3) := by decide +kernel
theorem dL_steps_328 : decode cL_steps 328 = .ok (.lconst 1, 1) := by decide +kernel
theorem dL_steps_329 : decode cL_steps 329 = .ok (.lcmp, 1) := by decide +kernel
theorem dL_steps_330 : decode cL_steps 330 = .ok (.ifCond .lt 7, 3) := by decide +kernel
theorem dL_steps_333 : decode cL_steps 333 = .ok (.iconst 1, 1) := by decide +kernel
theorem dL_steps_334 : decode cL_steps 334 = .ok (.goto 4, 3) := by decide +kernel
theorem dL_steps_337 : decode cL_steps 337 = .ok (.iconst 0, 1) := by decide +kernel
theorem dL_steps_338 : decode cL_steps 338 = .ok (.istore 11, 2) := by decide +kernel
theorem dL_steps_340 : decode cL_steps 340 = .ok (.goto 387, 3) := by decide +kernel
theorem dL_steps_343 : decode cL_steps 343 = .ok (.iload_n 2, 1) := by decide +kernel
theorem dL_steps_344 : decode cL_steps 344 = .ok (.iconst 5, 1) := by decide +kernel
theorem dL_steps_345 : decode cL_steps 345 = .ok (.if_icmp .ne 60, 3) := by decide +kernel
theorem dL_steps_348 : decode cL_steps 348 = .ok (.aload_n 0, 1) := by decide +kernel
theorem dL_steps_349 : decode cL_steps 349 = .ok (.iload_n 1, 1) := by decide +kernel
theorem dL_steps_350 : decode cL_steps 350 = .ok (.invokestatic 258, 3) := by decide +kernel
theorem dL_steps_353 : decode cL_steps 353 = .ok (.lstore 9, 2) := by decide +kernel
theorem dL_steps_355 : decode cL_steps 355 = .ok (.lload 9, 2) := by decide +kernel
theorem dL_steps_357 : decode cL_steps 357 = .ok (.ldc2_w 21, 3) := by decide +kernel
theorem dL_steps_360 : decode cL_steps 360 = .ok (.lcmp, 1) := by decide +kernel
theorem dL_steps_361 : decode cL_steps 361 = .ok (.ifCond .eq 34, 3) := by decide +kernel
theorem dL_steps_364 : decode cL_steps 364 = .ok (.lload 5, 2) := by decide +kernel
theorem dL_steps_366 : decode cL_steps 366 = .ok (.ldc2_w 195, 3) := by decide +kernel
theorem dL_steps_369 : decode cL_steps 369 = .ok (.lcmp, 1) := by decide +kernel
theorem dL_steps_370 : decode cL_steps 370 = .ok (.ifCond .ne 29, 3) := by decide +kernel
theorem dL_steps_373 : decode cL_steps 373 = .ok (.aload_n 0, 1) := by decide +kernel
theorem dL_steps_374 : decode cL_steps 374 = .ok (.iload_n 1, 1) := by decide +kernel
theorem dL_steps_375 : decode cL_steps 375 = .ok (.invokestatic 182, 3) := by decide +kernel
theorem dL_steps_378 : decode cL_steps 378 = .ok (.ldc2_w 219, 3) := by decide +kernel
theorem dL_steps_381 : decode cL_steps 381 = .ok (.lcmp, 1) := by decide +kernel
theorem dL_steps_382 : decode cL_steps 382 = .ok (.ifCond .ne 17, 3) := by decide +kernel
theorem dL_steps_385 : decode cL_steps 385 = .ok (.aload_n 0, 1) := by decide +kernel
theorem dL_steps_386 : decode cL_steps 386 = .ok (.iload_n 1, 1) := by decide +kernel
theorem dL_steps_387 : decode cL_steps 387 = .ok (.invokestatic 187, 3) := by decide +kernel
theorem dL_steps_390 : decode cL_steps 390 = .ok (.lconst 0, 1) := by decide +kernel
theorem dL_steps_391 : decode cL_steps 391 = .ok (.lcmp, 1) := by decide +kernel
theorem dL_steps_392 : decode cL_steps 392 = .ok (.ifCond .ne 7, 3) := by decide +kernel
theorem dL_steps_395 : decode cL_steps 395 = .ok (.iconst 1, 1) := by decide +kernel
theorem dL_steps_396 : decode cL_steps 396 = .ok (.goto 4, 3) := by decide +kernel
theorem dL_steps_399 : decode cL_steps 399 = .ok (.iconst 0, 1) := by decide +kernel
theorem dL_steps_400 : decode cL_steps 400 = .ok (.istore 11, 2) := by decide +kernel
theorem dL_steps_402 : decode cL_steps 402 = .ok (.goto 325, 3) := by decide +kernel
theorem dL_steps_405 : decode cL_steps 405 = .ok (.iload_n 2, 1) := by decide +kernel
theorem dL_steps_406 : decode cL_steps 406 = .ok (.bipush 6, 2) := by decide +kernel
theorem dL_steps_408 : decode cL_steps 408 = .ok (.if_icmp .ne 95, 3) := by decide +kernel
theorem dL_steps_411 : decode cL_steps 411 = .ok (.aload_n 0, 1) := by decide +kernel
theorem dL_steps_412 : decode cL_steps 412 = .ok (.iload_n 1, 1) := by decide +kernel
theorem dL_steps_413 : decode cL_steps 413 = .ok (.iload_n 3, 1) := by decide +kernel
theorem dL_steps_414 : decode cL_steps 414 = .ok (.iconst 3, 1) := by decide +kernel
theorem dL_steps_415 : decode cL_steps 415 = .ok (.irem, 1) := by decide +kernel
theorem dL_steps_416 : decode cL_steps 416 = .ok (.iload_n 3, 1) := by decide +kernel
theorem dL_steps_417 : decode cL_steps 417 = .ok (.iconst 3, 1) := by decide +kernel
theorem dL_steps_418 : decode cL_steps 418 = .ok (.idiv, 1) := by decide +kernel
theorem dL_steps_419 : decode cL_steps 419 = .ok (.i2l, 1) := by decide +kernel
theorem dL_steps_420 : decode cL_steps 420 = .ok (.lload 7, 2) := by decide +kernel
theorem dL_steps_422 : decode cL_steps 422 = .ok (.lconst 1, 1) := by decide +kernel
theorem dL_steps_423 : decode cL_steps 423 = .ok (.ladd, 1) := by decide +kernel
theorem dL_steps_424 : decode cL_steps 424 = .ok (.lrem, 1) := by decide +kernel
theorem dL_steps_425 : decode cL_steps 425 = .ok (.l2i, 1) := by decide +kernel
theorem dL_steps_426 : decode cL_steps 426 = .ok (.invokestatic 260, 3) := by decide +kernel
theorem dL_steps_429 : decode cL_steps 429 = .ok (.lstore 9, 2) := by decide +kernel
theorem dL_steps_431 : decode cL_steps 431 = .ok (.lload 9, 2) := by decide +kernel
theorem dL_steps_433 : decode cL_steps 433 = .ok (.ldc2_w 21, 3) := by decide +kernel
theorem dL_steps_436 : decode cL_steps 436 = .ok (.lcmp, 1) := by decide +kernel
theorem dL_steps_437 : decode cL_steps 437 = .ok (.ifCond .eq 56, 3) := by decide +kernel
theorem dL_steps_440 : decode cL_steps 440 = .ok (.lload 5, 2) := by decide +kernel
theorem dL_steps_442 : decode cL_steps 442 = .ok (.ldc2_w 219, 3) := by decide +kernel
theorem dL_steps_445 : decode cL_steps 445 = .ok (.lcmp, 1) := by decide +kernel
theorem dL_steps_446 : decode cL_steps 446 = .ok (.ifCond .ne 51, 3) := by decide +kernel
theorem dL_steps_449 : decode cL_steps 449 = .ok (.aload_n 0, 1) := by decide +kernel
theorem dL_steps_450 : decode cL_steps 450 = .ok (.iload_n 1, 1) := by decide +kernel
theorem dL_steps_451 : decode cL_steps 451 = .ok (.invokestatic 182, 3) := by decide +kernel
theorem dL_steps_454 : decode cL_steps 454 = .ok (.iload_n 3, 1) := by decide +kernel
theorem dL_steps_455 : decode cL_steps 455 = .ok (.iconst 3, 1) := by decide +kernel
theorem dL_steps_456 : decode cL_steps 456 = .ok (.irem, 1) := by decide +kernel
theorem dL_steps_457 : decode cL_steps 457 = .ok (.ifCond .ne 9, 3) := by decide +kernel
theorem dL_steps_460 : decode cL_steps 460 = .ok (.ldc2_w 195, 3) := by decide +kernel
theorem dL_steps_463 : decode cL_steps 463 = .ok (.goto 15, 3) := by decide +kernel
theorem dL_steps_466 : decode cL_steps 466 = .ok (.iload_n 3, 1) := by decide +kernel
theorem dL_steps_467 : decode cL_steps 467 = .ok (.iconst 3, 1) := by decide +kernel
theorem dL_steps_468 : decode cL_steps 468 = .ok (.irem, 1) := by decide +kernel
theorem dL_steps_469 : decode cL_steps 469 = .ok (.iconst 1, 1) := by decide +kernel
theorem dL_steps_470 : decode cL_steps 470 = .ok (.if_icmp .ne 7, 3) := by decide +kernel
theorem dL_steps_473 : decode cL_steps 473 = .ok (.lconst 1, 1) := by decide +kernel
theorem dL_steps_474 : decode cL_steps 474 = .ok (.goto 4, 3) := by decide +kernel
theorem dL_steps_477 : decode cL_steps 477 = .ok (.lconst 0, 1) := by decide +kernel
theorem dL_steps_478 : decode cL_steps 478 = .ok (.lcmp, 1) := by decide +kernel
theorem dL_steps_479 : decode cL_steps 479 = .ok (.ifCond .ne 18, 3) := by decide +kernel
theorem dL_steps_482 : decode cL_steps 482 = .ok (.aload_n 0, 1) := by decide +kernel
theorem dL_steps_483 : decode cL_steps 483 = .ok (.iload_n 1, 1) := by decide +kernel
theorem dL_steps_484 : decode cL_steps 484 = .ok (.invokestatic 193, 3) := by decide +kernel
theorem dL_steps_487 : decode cL_steps 487 = .ok (.lload 7, 2) := by decide +kernel
theorem dL_steps_489 : decode cL_steps 489 = .ok (.lcmp, 1) := by decide +kernel
theorem dL_steps_490 : decode cL_steps 490 = .ok (.ifCond .lt 7, 3) := by decide +kernel
theorem dL_steps_493 : decode cL_steps 493 = .ok (.iconst 1, 1) := by decide +kernel
theorem dL_steps_494 : decode cL_steps 494 = .ok (.goto 4, 3) := by decide +kernel
theorem dL_steps_497 : decode cL_steps 497 = .ok (.iconst 0, 1) := by decide +kernel
theorem dL_steps_498 : decode cL_steps 498 = .ok (.istore 11, 2) := by decide +kernel
theorem dL_steps_500 : decode cL_steps 500 = .ok (.goto 227, 3) := by decide +kernel
theorem dL_steps_503 : decode cL_steps 503 = .ok (.iload_n 2, 1) := by decide +kernel
theorem dL_steps_504 : decode cL_steps 504 = .ok (.bipush 7, 2) := by decide +kernel
theorem dL_steps_506 : decode cL_steps 506 = .ok (.if_icmp .ne 71, 3) := by decide +kernel
theorem dL_steps_509 : decode cL_steps 509 = .ok (.iload_n 3, 1) := by decide +kernel
theorem dL_steps_510 : decode cL_steps 510 = .ok (.iconst 4, 1) := by decide +kernel
theorem dL_steps_511 : decode cL_steps 511 = .ok (.irem, 1) := by decide +kernel
theorem dL_steps_512 : decode cL_steps 512 = .ok (.ifCond .ne 65, 3) := by decide +kernel
theorem dL_steps_515 : decode cL_steps 515 = .ok (.aload_n 0, 1) := by decide +kernel
theorem dL_steps_516 : decode cL_steps 516 = .ok (.iload_n 1, 1) := by decide +kernel
theorem dL_steps_517 : decode cL_steps 517 = .ok (.invokestatic 262, 3) := by decide +kernel
theorem dL_steps_520 : decode cL_steps 520 = .ok (.lstore 9, 2) := by decide +kernel
theorem dL_steps_522 : decode cL_steps 522 = .ok (.lload 9, 2) := by decide +kernel
theorem dL_steps_524 : decode cL_steps 524 = .ok (.ldc2_w 21, 3) := by decide +kernel
theorem dL_steps_527 : decode cL_steps 527 = .ok (.lcmp, 1) := by decide +kernel
theorem dL_steps_528 : decode cL_steps 528 = .ok (.ifCond .eq 39, 3) := by decide +kernel
theorem dL_steps_531 : decode cL_steps 531 = .ok (.aload_n 0, 1) := by decide +kernel
theorem dL_steps_532 : decode cL_steps 532 = .ok (.iload_n 1, 1) := by decide +kernel
theorem dL_steps_533 : decode cL_steps 533 = .ok (.invokestatic 182, 3) := by decide +kernel
theorem dL_steps_536 : decode cL_steps 536 = .ok (.ldc2_w 224, 3) := by decide +kernel
theorem dL_steps_539 : decode cL_steps 539 = .ok (.lcmp, 1) := by decide +kernel
theorem dL_steps_540 : decode cL_steps 540 = .ok (.ifCond .ne 31, 3) := by decide +kernel
theorem dL_steps_543 : decode cL_steps 543 = .ok (.aload_n 0, 1) := by decide +kernel
theorem dL_steps_544 : decode cL_steps 544 = .ok (.iload_n 1, 1) := by decide +kernel
theorem dL_steps_545 : decode cL_steps 545 = .ok (.invokestatic 262, 3) := by decide +kernel
theorem dL_steps_548 : decode cL_steps 548 = .ok (.ldc2_w 21, 3) := by decide +kernel
theorem dL_steps_551 : decode cL_steps 551 = .ok (.lcmp, 1) := by decide +kernel
theorem dL_steps_552 : decode cL_steps 552 = .ok (.ifCond .ne 19, 3) := by decide +kernel
theorem dL_steps_555 : decode cL_steps 555 = .ok (.aload_n 0, 1) := by decide +kernel
theorem dL_steps_556 : decode cL_steps 556 = .ok (.iload_n 1, 1) := by decide +kernel
theorem dL_steps_557 : decode cL_steps 557 = .ok (.invokestatic 256, 3) := by decide +kernel
theorem dL_steps_560 : decode cL_steps 560 = .ok (.ldc2_w 21, 3) := by decide +kernel
theorem dL_steps_563 : decode cL_steps 563 = .ok (.lcmp, 1) := by decide +kernel
theorem dL_steps_564 : decode cL_steps 564 = .ok (.ifCond .ne 7, 3) := by decide +kernel
theorem dL_steps_567 : decode cL_steps 567 = .ok (.iconst 1, 1) := by decide +kernel
theorem dL_steps_568 : decode cL_steps 568 = .ok (.goto 4, 3) := by decide +kernel
theorem dL_steps_571 : decode cL_steps 571 = .ok (.iconst 0, 1) := by decide +kernel
theorem dL_steps_572 : decode cL_steps 572 = .ok (.istore 11, 2) := by decide +kernel
theorem dL_steps_574 : decode cL_steps 574 = .ok (.goto 153, 3) := by decide +kernel
theorem dL_steps_577 : decode cL_steps 577 = .ok (.iload_n 2, 1) := by decide +kernel
theorem dL_steps_578 : decode cL_steps 578 = .ok (.bipush 7, 2) := by decide +kernel
theorem dL_steps_580 : decode cL_steps 580 = .ok (.if_icmp .ne 147, 3) := by decide +kernel
theorem dL_steps_583 : decode cL_steps 583 = .ok (.aload_n 0, 1) := by decide +kernel
theorem dL_steps_584 : decode cL_steps 584 = .ok (.iload_n 1, 1) := by decide +kernel
theorem dL_steps_585 : decode cL_steps 585 = .ok (.invokestatic 187, 3) := by decide +kernel
theorem dL_steps_588 : decode cL_steps 588 = .ok (.lstore 12, 2) := by decide +kernel
theorem dL_steps_590 : decode cL_steps 590 = .ok (.aload_n 0, 1) := by decide +kernel
theorem dL_steps_591 : decode cL_steps 591 = .ok (.iload_n 1, 1) := by decide +kernel
theorem dL_steps_592 : decode cL_steps 592 = .ok (.iconst 1, 1) := by decide +kernel
theorem dL_steps_593 : decode cL_steps 593 = .ok (.iload_n 3, 1) := by decide +kernel
theorem dL_steps_594 : decode cL_steps 594 = .ok (.iconst 4, 1) := by decide +kernel
theorem dL_steps_595 : decode cL_steps 595 = .ok (.idiv, 1) := by decide +kernel
theorem dL_steps_596 : decode cL_steps 596 = .ok (.sipush 3000, 3) := by decide +kernel
theorem dL_steps_599 : decode cL_steps 599 = .ok (.irem, 1) := by decide +kernel
theorem dL_steps_600 : decode cL_steps 600 = .ok (.iadd, 1) := by decide +kernel
theorem dL_steps_601 : decode cL_steps 601 = .ok (.invokestatic 264, 3) := by decide +kernel
theorem dL_steps_604 : decode cL_steps 604 = .ok (.lstore 14, 2) := by decide +kernel
theorem dL_steps_606 : decode cL_steps 606 = .ok (.lload 14, 2) := by decide +kernel
theorem dL_steps_608 : decode cL_steps 608 = .ok (.ldc2_w 21, 3) := by decide +kernel
theorem dL_steps_611 : decode cL_steps 611 = .ok (.lcmp, 1) := by decide +kernel
theorem dL_steps_612 : decode cL_steps 612 = .ok (.ifCond .ne 44, 3) := by decide +kernel
theorem dL_steps_615 : decode cL_steps 615 = .ok (.lload 5, 2) := by decide +kernel
theorem dL_steps_617 : decode cL_steps 617 = .ok (.ldc2_w 195, 3) := by decide +kernel
theorem dL_steps_620 : decode cL_steps 620 = .ok (.lcmp, 1) := by decide +kernel
theorem dL_steps_621 : decode cL_steps 621 = .ok (.ifCond .ne 27, 3) := by decide +kernel
theorem dL_steps_624 : decode cL_steps 624 = .ok (.lload 12, 2) := by decide +kernel
theorem dL_steps_626 : decode cL_steps 626 = .ok (.iconst 1, 1) := by decide +kernel
theorem dL_steps_627 : decode cL_steps 627 = .ok (.iload_n 3, 1) := by decide +kernel
theorem dL_steps_628 : decode cL_steps 628 = .ok (.iconst 4, 1) := by decide +kernel
theorem dL_steps_629 : decode cL_steps 629 = .ok (.idiv, 1) := by decide +kernel
theorem dL_steps_630 : decode cL_steps 630 = .ok (.sipush 3000, 3) := by decide +kernel
theorem dL_steps_633 : decode cL_steps 633 = .ok (.irem, 1) := by decide +kernel
theorem dL_steps_634 : decode cL_steps 634 = .ok (.iadd, 1) := by decide +kernel
theorem dL_steps_635 : decode cL_steps 635 = .ok (.i2l, 1) := by decide +kernel
theorem dL_steps_636 : decode cL_steps 636 = .ok (.lcmp, 1) := by decide +kernel
theorem dL_steps_637 : decode cL_steps 637 = .ok (.ifCond .lt 11, 3) := by decide +kernel
theorem dL_steps_640 : decode cL_steps 640 = .ok (.iload 4, 2) := by decide +kernel
theorem dL_steps_642 : decode cL_steps 642 = .ok (.sipush 160, 3) := by decide +kernel
theorem dL_steps_645 : decode cL_steps 645 = .ok (.if_icmp .ne 7, 3) := by decide +kernel
theorem dL_steps_648 : decode cL_steps 648 = .ok (.iconst 1, 1) := by decide +kernel
theorem dL_steps_649 : decode cL_steps 649 = .ok (.goto 56, 3) := by decide +kernel
theorem dL_steps_652 : decode cL_steps 652 = .ok (.iconst 0, 1) := by decide +kernel
theorem dL_steps_653 : decode cL_steps 653 = .ok (.goto 52, 3) := by decide +kernel
theorem dL_steps_656 : decode cL_steps 656 = .ok (.lload 14, 2) := by decide +kernel
theorem dL_steps_658 : decode cL_steps 658 = .ok (.lload 12, 2) := by decide +kernel
theorem dL_steps_660 : decode cL_steps 660 = .ok (.lconst 1, 1) := by decide +kernel
theorem dL_steps_661 : decode cL_steps 661 = .ok (.lsub, 1) := by decide +kernel
theorem dL_steps_662 : decode cL_steps 662 = .ok (.iload_n 3, 1) := by decide +kernel
theorem dL_steps_663 : decode cL_steps 663 = .ok (.iconst 4, 1) := by decide +kernel
theorem dL_steps_664 : decode cL_steps 664 = .ok (.idiv, 1) := by decide +kernel
theorem dL_steps_665 : decode cL_steps 665 = .ok (.sipush 3000, 3) := by decide +kernel
theorem dL_steps_668 : decode cL_steps 668 = .ok (.irem, 1) := by decide +kernel
theorem dL_steps_669 : decode cL_steps 669 = .ok (.i2l, 1) := by decide +kernel
theorem dL_steps_670 : decode cL_steps 670 = .ok (.lsub, 1) := by decide +kernel
theorem dL_steps_671 : decode cL_steps 671 = .ok (.lcmp, 1) := by decide +kernel
theorem dL_steps_672 : decode cL_steps 672 = .ok (.ifCond .ne 32, 3) := by decide +kernel
theorem dL_steps_675 : decode cL_steps 675 = .ok (.aload_n 0, 1) := by decide +kernel
theorem dL_steps_676 : decode cL_steps 676 = .ok (.iload_n 1, 1) := by decide +kernel
theorem dL_steps_677 : decode cL_steps 677 = .ok (.invokestatic 182, 3) := by decide +kernel
theorem dL_steps_680 : decode cL_steps 680 = .ok (.lload 14, 2) := by decide +kernel
theorem dL_steps_682 : decode cL_steps 682 = .ok (.lconst 0, 1) := by decide +kernel
theorem dL_steps_683 : decode cL_steps 683 = .ok (.lcmp, 1) := by decide +kernel
theorem dL_steps_684 : decode cL_steps 684 = .ok (.ifCond .ne 9, 3) := by decide +kernel
theorem dL_steps_687 : decode cL_steps 687 = .ok (.ldc2_w 189, 3) := by decide +kernel
theorem dL_steps_690 : decode cL_steps 690 = .ok (.goto 6, 3) := by decide +kernel
theorem dL_steps_693 : decode cL_steps 693 = .ok (.ldc2_w 195, 3) := by decide +kernel
theorem dL_steps_696 : decode cL_steps 696 = .ok (.lcmp, 1) := by decide +kernel
theorem dL_steps_697 : decode cL_steps 697 = .ok (.ifCond .ne 7, 3) := by decide +kernel
theorem dL_steps_700 : decode cL_steps 700 = .ok (.iconst 1, 1) := by decide +kernel
theorem dL_steps_701 : decode cL_steps 701 = .ok (.goto 4, 3) := by decide +kernel
theorem dL_steps_704 : decode cL_steps 704 = .ok (.iconst 0, 1) := by decide +kernel
theorem dL_steps_705 : decode cL_steps 705 = .ok (.istore 11, 2) := by decide +kernel
theorem dL_steps_707 : decode cL_steps 707 = .ok (.lload 14, 2) := by decide +kernel
theorem dL_steps_709 : decode cL_steps 709 = .ok (.ldc2_w 21, 3) := by decide +kernel
theorem dL_steps_712 : decode cL_steps 712 = .ok (.lcmp, 1) := by decide +kernel
theorem dL_steps_713 : decode cL_steps 713 = .ok (.ifCond .ne 9, 3) := by decide +kernel
theorem dL_steps_716 : decode cL_steps 716 = .ok (.ldc2_w 21, 3) := by decide +kernel
theorem dL_steps_719 : decode cL_steps 719 = .ok (.goto 6, 3) := by decide +kernel
theorem dL_steps_722 : decode cL_steps 722 = .ok (.iload 4, 2) := by decide +kernel
theorem dL_steps_724 : decode cL_steps 724 = .ok (.i2l, 1) := by decide +kernel
theorem dL_steps_725 : decode cL_steps 725 = .ok (.lstore 9, 2) := by decide +kernel
theorem dL_steps_727 : decode cL_steps 727 = .ok (.iload 11, 2) := by decide +kernel
theorem dL_steps_729 : decode cL_steps 729 = .ok (.ifCond .eq 61, 3) := by decide +kernel
theorem dL_steps_732 : decode cL_steps 732 = .ok (.lload 9, 2) := by decide +kernel
theorem dL_steps_734 : decode cL_steps 734 = .ok (.ldc2_w 21, 3) := by decide +kernel
theorem dL_steps_737 : decode cL_steps 737 = .ok (.lcmp, 1) := by decide +kernel
theorem dL_steps_738 : decode cL_steps 738 = .ok (.ifCond .ne 15, 3) := by decide +kernel
theorem dL_steps_741 : decode cL_steps 741 = .ok (.aload_n 0, 1) := by decide +kernel
theorem dL_steps_742 : decode cL_steps 742 = .ok (.invokevirtual 206, 3) := by decide +kernel
theorem dL_steps_745 : decode cL_steps 745 = .ok (.iload 4, 2) := by decide +kernel
theorem dL_steps_747 : decode cL_steps 747 = .ok (.if_icmp .ne 43, 3) := by decide +kernel
theorem dL_steps_750 : decode cL_steps 750 = .ok (.goto 36, 3) := by decide +kernel
theorem dL_steps_753 : decode cL_steps 753 = .ok (.lload 9, 2) := by decide +kernel
theorem dL_steps_755 : decode cL_steps 755 = .ok (.iload 4, 2) := by decide +kernel
theorem dL_steps_757 : decode cL_steps 757 = .ok (.i2l, 1) := by decide +kernel
theorem dL_steps_758 : decode cL_steps 758 = .ok (.lcmp, 1) := by decide +kernel
theorem dL_steps_759 : decode cL_steps 759 = .ok (.ifCond .ne 31, 3) := by decide +kernel
theorem dL_steps_762 : decode cL_steps 762 = .ok (.aload_n 0, 1) := by decide +kernel
theorem dL_steps_763 : decode cL_steps 763 = .ok (.invokevirtual 206, 3) := by decide +kernel
theorem dL_steps_766 : decode cL_steps 766 = .ok (.iload 4, 2) := by decide +kernel
theorem dL_steps_768 : decode cL_steps 768 = .ok (.iconst 1, 1) := by decide +kernel
theorem dL_steps_769 : decode cL_steps 769 = .ok (.iadd, 1) := by decide +kernel
theorem dL_steps_770 : decode cL_steps 770 = .ok (.if_icmp .ne 20, 3) := by decide +kernel
theorem dL_steps_773 : decode cL_steps 773 = .ok (.aload_n 0, 1) := by decide +kernel
theorem dL_steps_774 : decode cL_steps 774 = .ok (.iload 4, 2) := by decide +kernel
theorem dL_steps_776 : decode cL_steps 776 = .ok (.iconst 2, 1) := by decide +kernel
theorem dL_steps_777 : decode cL_steps 777 = .ok (.invokestatic 210, 3) := by decide +kernel
theorem dL_steps_780 : decode cL_steps 780 = .ok (.iload_n 1, 1) := by decide +kernel
theorem dL_steps_781 : decode cL_steps 781 = .ok (.i2l, 1) := by decide +kernel
theorem dL_steps_782 : decode cL_steps 782 = .ok (.lcmp, 1) := by decide +kernel
theorem dL_steps_783 : decode cL_steps 783 = .ok (.ifCond .ne 7, 3) := by decide +kernel
theorem dL_steps_786 : decode cL_steps 786 = .ok (.iconst 1, 1) := by decide +kernel
theorem dL_steps_787 : decode cL_steps 787 = .ok (.goto 4, 3) := by decide +kernel
theorem dL_steps_790 : decode cL_steps 790 = .ok (.iconst 0, 1) := by decide +kernel
theorem dL_steps_791 : decode cL_steps 791 = .ok (.ireturn, 1) := by decide +kernel
theorem dL_about_0 : decode cL_about 0 = .ok (.aload_n 0, 1) := by decide +kernel
theorem dL_about_1 : decode cL_about 1 = .ok (.invokevirtual 206, 3) := by decide +kernel
theorem dL_about_4 : decode cL_about 4 = .ok (.istore 4, 2) := by decide +kernel
theorem dL_about_6 : decode cL_about 6 = .ok (.aload_n 0, 1) := by decide +kernel
theorem dL_about_7 : decode cL_about 7 = .ok (.iload_n 1, 1) := by decide +kernel
theorem dL_about_8 : decode cL_about 8 = .ok (.iconst 0, 1) := by decide +kernel
theorem dL_about_9 : decode cL_about 9 = .ok (.invokestatic 210, 3) := by decide +kernel
theorem dL_about_12 : decode cL_about 12 = .ok (.lstore 5, 2) := by decide +kernel
theorem dL_about_14 : decode cL_about 14 = .ok (.iload_n 2, 1) := by decide +kernel
theorem dL_about_15 : decode cL_about 15 = .ok (.ifCond .ne 87, 3) := by decide +kernel
theorem dL_about_18 : decode cL_about 18 = .ok (.aload_n 0, 1) := by decide +kernel
theorem dL_about_19 : decode cL_about 19 = .ok (.iload_n 1, 1) := by decide +kernel
theorem dL_about_20 : decode cL_about 20 = .ok (.invokestatic 250, 3) := by decide +kernel
theorem dL_about_23 : decode cL_about 23 = .ok (.lstore 7, 2) := by decide +kernel
theorem dL_about_25 : decode cL_about 25 = .ok (.lload 7, 2) := by decide +kernel
theorem dL_about_27 : decode cL_about 27 = .ok (.lload 5, 2) := by decide +kernel
theorem dL_about_29 : decode cL_about 29 = .ok (.ldc2_w 195, 3) := by decide +kernel
theorem dL_about_32 : decode cL_about 32 = .ok (.lcmp, 1) := by decide +kernel
theorem dL_about_33 : decode cL_about 33 = .ok (.ifCond .ne 24, 3) := by decide +kernel
theorem dL_about_36 : decode cL_about 36 = .ok (.lload 7, 2) := by decide +kernel
theorem dL_about_38 : decode cL_about 38 = .ok (.ldc2_w 21, 3) := by decide +kernel
theorem dL_about_41 : decode cL_about 41 = .ok (.lcmp, 1) := by decide +kernel
theorem dL_about_42 : decode cL_about 42 = .ok (.ifCond .ne 9, 3) := by decide +kernel
theorem dL_about_45 : decode cL_about 45 = .ok (.ldc2_w 21, 3) := by decide +kernel
theorem dL_about_48 : decode cL_about 48 = .ok (.goto 12, 3) := by decide +kernel
theorem dL_about_51 : decode cL_about 51 = .ok (.iload 4, 2) := by decide +kernel
theorem dL_about_53 : decode cL_about 53 = .ok (.i2l, 1) := by decide +kernel
theorem dL_about_54 : decode cL_about 54 = .ok (.goto 6, 3) := by decide +kernel
theorem dL_about_57 : decode cL_about 57 = .ok (.ldc2_w 33, 3) := by decide +kernel
theorem dL_about_60 : decode cL_about 60 = .ok (.lcmp, 1) := by decide +kernel
theorem dL_about_61 : decode cL_about 61 = .ok (.ifCond .ne 39, 3) := by decide +kernel
theorem dL_about_64 : decode cL_about 64 = .ok (.lload 7, 2) := by decide +kernel
theorem dL_about_66 : decode cL_about 66 = .ok (.iload 4, 2) := by decide +kernel
theorem dL_about_68 : decode cL_about 68 = .ok (.i2l, 1) := by decide +kernel
theorem dL_about_69 : decode cL_about 69 = .ok (.lcmp, 1) := by decide +kernel
theorem dL_about_70 : decode cL_about 70 = .ok (.ifCond .ne 26, 3) := by decide +kernel
theorem dL_about_73 : decode cL_about 73 = .ok (.aload_n 0, 1) := by decide +kernel
theorem dL_about_74 : decode cL_about 74 = .ok (.iload 4, 2) := by decide +kernel
theorem dL_about_76 : decode cL_about 76 = .ok (.invokestatic 212, 3) := by decide +kernel
theorem dL_about_79 : decode cL_about 79 = .ok (.lconst 1, 1) := by decide +kernel
theorem dL_about_80 : decode cL_about 80 = .ok (.lcmp, 1) := by decide +kernel
theorem dL_about_81 : decode cL_about 81 = .ok (.ifCond .ne 19, 3) := by decide +kernel
theorem dL_about_84 : decode cL_about 84 = .ok (.aload_n 0, 1) := by decide +kernel
theorem dL_about_85 : decode cL_about 85 = .ok (.iload_n 1, 1) := by decide +kernel
theorem dL_about_86 : decode cL_about 86 = .ok (.invokestatic 250, 3) := by decide +kernel
theorem dL_about_89 : decode cL_about 89 = .ok (.ldc2_w 21, 3) := by decide +kernel
theorem dL_about_92 : decode cL_about 92 = .ok (.lcmp, 1) := by decide +kernel
theorem dL_about_93 : decode cL_about 93 = .ok (.ifCond .ne 7, 3) := by decide +kernel
theorem dL_about_96 : decode cL_about 96 = .ok (.iconst 1, 1) := by decide +kernel
theorem dL_about_97 : decode cL_about 97 = .ok (.goto 4, 3) := by decide +kernel
theorem dL_about_100 : decode cL_about 100 = .ok (.iconst 0, 1) := by decide +kernel
theorem dL_about_101 : decode cL_about 101 = .ok (.ireturn, 1) := by decide +kernel
theorem dL_about_102 : decode cL_about 102 = .ok (.iload_n 2, 1) := by decide +kernel
theorem dL_about_103 : decode cL_about 103 = .ok (.iconst 1, 1) := by decide +kernel
theorem dL_about_104 : decode cL_about 104 = .ok (.if_icmp .ne 160, 3) := by decide +kernel
theorem dL_about_107 : decode cL_about 107 = .ok (.aload_n 0, 1) := by decide +kernel
theorem dL_about_108 : decode cL_about 108 = .ok (.iload_n 1, 1) := by decide +kernel
theorem dL_about_109 : decode cL_about 109 = .ok (.iconst 2, 1) := by decide +kernel
theorem dL_about_110 : decode cL_about 110 = .ok (.invokestatic 210, 3) := by decide +kernel
theorem dL_about_113 : decode cL_about 113 = .ok (.l2i, 1) := by decide +kernel
theorem dL_about_114 : decode cL_about 114 = .ok (.istore 7, 2) := by decide +kernel
theorem dL_about_116 : decode cL_about 116 = .ok (.lload 5, 2) := by decide +kernel
theorem dL_about_118 : decode cL_about 118 = .ok (.ldc2_w 195, 3) := by decide +kernel
theorem dL_about_121 : decode cL_about 121 = .ok (.lcmp, 1) := by decide +kernel
theorem dL_about_122 : decode cL_about 122 = .ok (.ifCond .ne 12, 3) := by decide +kernel
theorem dL_about_125 : decode cL_about 125 = .ok (.aload_n 0, 1) := by decide +kernel
theorem dL_about_126 : decode cL_about 126 = .ok (.iload 7, 2) := by decide +kernel
theorem dL_about_128 : decode cL_about 128 = .ok (.invokestatic 193, 3) := by decide +kernel
theorem dL_about_131 : decode cL_about 131 = .ok (.goto 4, 3) := by decide +kernel
theorem dL_about_134 : decode cL_about 134 = .ok (.lconst 0, 1) := by decide +kernel
theorem dL_about_135 : decode cL_about 135 = .ok (.lstore 8, 2) := by decide +kernel
theorem dL_about_137 : decode cL_about 137 = .ok (.iload_n 3, 1) := by decide +kernel
theorem dL_about_138 : decode cL_about 138 = .ok (.i2l, 1) := by decide +kernel
theorem dL_about_139 : decode cL_about 139 = .ok (.lload 8, 2) := by decide +kernel
theorem dL_about_141 : decode cL_about 141 = .ok (.lconst 1, 1) := by decide +kernel
theorem dL_about_142 : decode cL_about 142 = .ok (.ladd, 1) := by decide +kernel
theorem dL_about_143 : decode cL_about 143 = .ok (.lrem, 1) := by decide +kernel
theorem dL_about_144 : decode cL_about 144 = .ok (.l2i, 1) := by decide +kernel
theorem dL_about_145 : decode cL_about 145 = .ok (.iconst 1, 1) := by decide +kernel
theorem dL_about_146 : decode cL_about 146 = .ok (.isub, 1) := by decide +kernel
theorem dL_about_147 : decode cL_about 147 = .ok (.istore 10, 2) := by decide +kernel
theorem dL_about_149 : decode cL_about 149 = .ok (.aload_n 0, 1) := by decide +kernel
theorem dL_about_150 : decode cL_about 150 = .ok (.iload_n 1, 1) := by decide +kernel
theorem dL_about_151 : decode cL_about 151 = .ok (.iload 10, 2) := by decide +kernel
theorem dL_about_153 : decode cL_about 153 = .ok (.invokestatic 252, 3) := by decide +kernel
theorem dL_about_156 : decode cL_about 156 = .ok (.lstore 11, 2) := by decide +kernel
theorem dL_about_158 : decode cL_about 158 = .ok (.lload 5, 2) := by decide +kernel
theorem dL_about_160 : decode cL_about 160 = .ok (.ldc2_w 195, 3) := by decide +kernel
theorem dL_about_163 : decode cL_about 163 = .ok (.lcmp, 1) := by decide +kernel
theorem dL_about_164 : decode cL_about 164 = .ok (.ifCond .eq 20, 3) := by decide +kernel
theorem dL_about_167 : decode cL_about 167 = .ok (.lload 11, 2) := by decide +kernel
theorem dL_about_169 : decode cL_about 169 = .ok (.ldc2_w 33, 3) := by decide +kernel
theorem dL_about_172 : decode cL_about 172 = .ok (.lcmp, 1) := by decide +kernel
theorem dL_about_173 : decode cL_about 173 = .ok (.ifCond .ne 7, 3) := by decide +kernel
theorem dL_about_176 : decode cL_about 176 = .ok (.iconst 1, 1) := by decide +kernel
theorem dL_about_177 : decode cL_about 177 = .ok (.goto 86, 3) := by decide +kernel
theorem dL_about_180 : decode cL_about 180 = .ok (.iconst 0, 1) := by decide +kernel
theorem dL_about_181 : decode cL_about 181 = .ok (.goto 82, 3) := by decide +kernel
theorem dL_about_184 : decode cL_about 184 = .ok (.lload 11, 2) := by decide +kernel
theorem dL_about_186 : decode cL_about 186 = .ok (.ldc2_w 21, 3) := by decide +kernel
theorem dL_about_189 : decode cL_about 189 = .ok (.lcmp, 1) := by decide +kernel
theorem dL_about_190 : decode cL_about 190 = .ok (.ifCond .eq 68, 3) := by decide +kernel
theorem dL_about_193 : decode cL_about 193 = .ok (.lload 11, 2) := by decide +kernel
theorem dL_about_195 : decode cL_about 195 = .ok (.iload 4, 2) := by decide +kernel
theorem dL_about_197 : decode cL_about 197 = .ok (.i2l, 1) := by decide +kernel
theorem dL_about_198 : decode cL_about 198 = .ok (.lcmp, 1) := by decide +kernel
theorem dL_about_199 : decode cL_about 199 = .ok (.ifCond .ne 63, 3) := by decide +kernel
theorem dL_about_202 : decode cL_about 202 = .ok (.aload_n 0, 1) := by decide +kernel
theorem dL_about_203 : decode cL_about 203 = .ok (.iload 7, 2) := by decide +kernel
theorem dL_about_205 : decode cL_about 205 = .ok (.invokestatic 182, 3) := by decide +kernel
theorem dL_about_208 : decode cL_about 208 = .ok (.iload 10, 2) := by decide +kernel
theorem dL_about_210 : decode cL_about 210 = .ok (.ifCond .ne 7, 3) := by decide +kernel
theorem dL_about_213 : decode cL_about 213 = .ok (.lconst 1, 1) := by decide +kernel
theorem dL_about_214 : decode cL_about 214 = .ok (.goto 4, 3) := by decide +kernel
theorem dL_about_217 : decode cL_about 217 = .ok (.lconst 0, 1) := by decide +kernel
theorem dL_about_218 : decode cL_about 218 = .ok (.lcmp, 1) := by decide +kernel
theorem dL_about_219 : decode cL_about 219 = .ok (.ifCond .ne 43, 3) := by decide +kernel
theorem dL_about_222 : decode cL_about 222 = .ok (.aload_n 0, 1) := by decide +kernel
theorem dL_about_223 : decode cL_about 223 = .ok (.iload 7, 2) := by decide +kernel
theorem dL_about_225 : decode cL_about 225 = .ok (.invokestatic 193, 3) := by decide +kernel
theorem dL_about_228 : decode cL_about 228 = .ok (.iload 10, 2) := by decide +kernel
theorem dL_about_230 : decode cL_about 230 = .ok (.ifCond .le 9, 3) := by decide +kernel
theorem dL_about_233 : decode cL_about 233 = .ok (.iload 10, 2) := by decide +kernel
theorem dL_about_235 : decode cL_about 235 = .ok (.i2l, 1) := by decide +kernel
theorem dL_about_236 : decode cL_about 236 = .ok (.goto 5, 3) := by decide +kernel
theorem dL_about_239 : decode cL_about 239 = .ok (.lload 8, 2) := by decide +kernel
theorem dL_about_241 : decode cL_about 241 = .ok (.lcmp, 1) := by decide +kernel
theorem dL_about_242 : decode cL_about 242 = .ok (.ifCond .ne 20, 3) := by decide +kernel
theorem dL_about_245 : decode cL_about 245 = .ok (.aload_n 0, 1) := by decide +kernel
theorem dL_about_246 : decode cL_about 246 = .ok (.iload_n 1, 1) := by decide +kernel
theorem dL_about_247 : decode cL_about 247 = .ok (.iconst (-1), 1) := by decide +kernel
theorem dL_about_248 : decode cL_about 248 = .ok (.invokestatic 252, 3) := by decide +kernel
theorem dL_about_251 : decode cL_about 251 = .ok (.ldc2_w 21, 3) := by decide +kernel
theorem dL_about_254 : decode cL_about 254 = .ok (.lcmp, 1) := by decide +kernel
theorem dL_about_255 : decode cL_about 255 = .ok (.ifCond .ne 7, 3) := by decide +kernel
theorem dL_about_258 : decode cL_about 258 = .ok (.iconst 1, 1) := by decide +kernel
theorem dL_about_259 : decode cL_about 259 = .ok (.goto 4, 3) := by decide +kernel
theorem dL_about_262 : decode cL_about 262 = .ok (.iconst 0, 1) := by decide +kernel
theorem dL_about_263 : decode cL_about 263 = .ok (.ireturn, 1) := by decide +kernel
theorem dL_about_264 : decode cL_about 264 = .ok (.iload_n 2, 1) := by decide +kernel
theorem dL_about_265 : decode cL_about 265 = .ok (.iconst 2, 1) := by decide +kernel
theorem dL_about_266 : decode cL_about 266 = .ok (.if_icmp .ne 92, 3) := by decide +kernel
theorem dL_about_269 : decode cL_about 269 = .ok (.aload_n 0, 1) := by decide +kernel
theorem dL_about_270 : decode cL_about 270 = .ok (.iload_n 1, 1) := by decide +kernel
theorem dL_about_271 : decode cL_about 271 = .ok (.invokestatic 269, 3) := by decide +kernel
theorem dL_about_274 : decode cL_about 274 = .ok (.lstore 7, 2) := by decide +kernel
theorem dL_about_276 : decode cL_about 276 = .ok (.lload 5, 2) := by decide +kernel
theorem dL_about_278 : decode cL_about 278 = .ok (.lconst 1, 1) := by decide +kernel
theorem dL_about_279 : decode cL_about 279 = .ok (.lcmp, 1) := by decide +kernel
theorem dL_about_280 : decode cL_about 280 = .ok (.ifCond .lt 12, 3) := by decide +kernel
theorem dL_about_283 : decode cL_about 283 = .ok (.lload 5, 2) := by decide +kernel
theorem dL_about_285 : decode cL_about 285 = .ok (.ldc2_w 219, 3) := by decide +kernel
theorem dL_about_288 : decode cL_about 288 = .ok (.lcmp, 1) := by decide +kernel
theorem dL_about_289 : decode cL_about 289 = .ok (.ifCond .le 20, 3) := by decide +kernel
theorem dL_about_292 : decode cL_about 292 = .ok (.lload 7, 2) := by decide +kernel
theorem dL_about_294 : decode cL_about 294 = .ok (.ldc2_w 21, 3) := by decide +kernel
theorem dL_about_297 : decode cL_about 297 = .ok (.lcmp, 1) := by decide +kernel
theorem dL_about_298 : decode cL_about 298 = .ok (.ifCond .ne 7, 3) := by decide +kernel
theorem dL_about_301 : decode cL_about 301 = .ok (.iconst 1, 1) := by decide +kernel
theorem dL_about_302 : decode cL_about 302 = .ok (.goto 55, 3) := by decide +kernel
theorem dL_about_305 : decode cL_about 305 = .ok (.iconst 0, 1) := by decide +kernel
theorem dL_about_306 : decode cL_about 306 = .ok (.goto 51, 3) := by decide +kernel
theorem dL_about_309 : decode cL_about 309 = .ok (.lload 7, 2) := by decide +kernel
theorem dL_about_311 : decode cL_about 311 = .ok (.ldc2_w 21, 3) := by decide +kernel
theorem dL_about_314 : decode cL_about 314 = .ok (.lcmp, 1) := by decide +kernel
theorem dL_about_315 : decode cL_about 315 = .ok (.ifCond .eq 37, 3) := by decide +kernel
theorem dL_about_318 : decode cL_about 318 = .ok (.lload 7, 2) := by decide +kernel
theorem dL_about_320 : decode cL_about 320 = .ok (.aload_n 0, 1) := by decide +kernel
theorem dL_about_321 : decode cL_about 321 = .ok (.iconst 3, 1) := by decide +kernel
theorem dL_about_322 : decode cL_about 322 = .ok (.iload_n 1, 1) := by decide +kernel
theorem dL_about_323 : decode cL_about 323 = .ok (.invokestatic 199, 3) := by decide +kernel
theorem dL_about_326 : decode cL_about 326 = .ok (.lcmp, 1) := by decide +kernel
theorem dL_about_327 : decode cL_about 327 = .ok (.ifCond .ne 29, 3) := by decide +kernel
theorem dL_about_330 : decode cL_about 330 = .ok (.aload_n 0, 1) := by decide +kernel
theorem dL_about_331 : decode cL_about 331 = .ok (.iload_n 1, 1) := by decide +kernel
theorem dL_about_332 : decode cL_about 332 = .ok (.invokestatic 212, 3) := by decide +kernel
theorem dL_about_335 : decode cL_about 335 = .ok (.lconst 1, 1) := by decide +kernel
theorem dL_about_336 : decode cL_about 336 = .ok (.lcmp, 1) := by decide +kernel
theorem dL_about_337 : decode cL_about 337 = .ok (.ifCond .ne 19, 3) := by decide +kernel
theorem dL_about_340 : decode cL_about 340 = .ok (.aload_n 0, 1) := by decide +kernel
theorem dL_about_341 : decode cL_about 341 = .ok (.iload_n 1, 1) := by decide +kernel
theorem dL_about_342 : decode cL_about 342 = .ok (.invokestatic 269, 3) := by decide +kernel
theorem dL_about_345 : decode cL_about 345 = .ok (.ldc2_w 21, 3) := by decide +kernel
theorem dL_about_348 : decode cL_about 348 = .ok (.lcmp, 1) := by decide +kernel
theorem dL_about_349 : decode cL_about 349 = .ok (.ifCond .ne 7, 3) := by decide +kernel
theorem dL_about_352 : decode cL_about 352 = .ok (.iconst 1, 1) := by decide +kernel
theorem dL_about_353 : decode cL_about 353 = .ok (.goto 4, 3) := by decide +kernel
theorem dL_about_356 : decode cL_about 356 = .ok (.iconst 0, 1) := by decide +kernel
theorem dL_about_357 : decode cL_about 357 = .ok (.ireturn, 1) := by decide +kernel
theorem dL_about_358 : decode cL_about 358 = .ok (.iload_n 2, 1) := by decide +kernel
theorem dL_about_359 : decode cL_about 359 = .ok (.iconst 3, 1) := by decide +kernel
theorem dL_about_360 : decode cL_about 360 = .ok (.if_icmp .ne 54, 3) := by decide +kernel
theorem dL_about_363 : decode cL_about 363 = .ok (.aload_n 0, 1) := by decide +kernel
theorem dL_about_364 : decode cL_about 364 = .ok (.iload_n 1, 1) := by decide +kernel
theorem dL_about_365 : decode cL_about 365 = .ok (.invokestatic 271, 3) := by decide +kernel
theorem dL_about_368 : decode cL_about 368 = .ok (.lstore 7, 2) := by decide +kernel
theorem dL_about_370 : decode cL_about 370 = .ok (.lload 7, 2) := by decide +kernel
theorem dL_about_372 : decode cL_about 372 = .ok (.ldc2_w 21, 3) := by decide +kernel
theorem dL_about_375 : decode cL_about 375 = .ok (.lcmp, 1) := by decide +kernel
theorem dL_about_376 : decode cL_about 376 = .ok (.ifCond .eq 32, 3) := by decide +kernel
theorem dL_about_379 : decode cL_about 379 = .ok (.lload 7, 2) := by decide +kernel
theorem dL_about_381 : decode cL_about 381 = .ok (.lconst 1, 1) := by decide +kernel
theorem dL_about_382 : decode cL_about 382 = .ok (.lcmp, 1) := by decide +kernel
theorem dL_about_383 : decode cL_about 383 = .ok (.ifCond .ne 29, 3) := by decide +kernel
theorem dL_about_386 : decode cL_about 386 = .ok (.aload_n 0, 1) := by decide +kernel
theorem dL_about_387 : decode cL_about 387 = .ok (.iload_n 1, 1) := by decide +kernel
theorem dL_about_388 : decode cL_about 388 = .ok (.invokestatic 212, 3) := by decide +kernel
theorem dL_about_391 : decode cL_about 391 = .ok (.lconst 1, 1) := by decide +kernel
theorem dL_about_392 : decode cL_about 392 = .ok (.lcmp, 1) := by decide +kernel
theorem dL_about_393 : decode cL_about 393 = .ok (.ifCond .ne 19, 3) := by decide +kernel
theorem dL_about_396 : decode cL_about 396 = .ok (.aload_n 0, 1) := by decide +kernel
theorem dL_about_397 : decode cL_about 397 = .ok (.iload_n 1, 1) := by decide +kernel
theorem dL_about_398 : decode cL_about 398 = .ok (.invokestatic 271, 3) := by decide +kernel
theorem dL_about_401 : decode cL_about 401 = .ok (.ldc2_w 21, 3) := by decide +kernel
theorem dL_about_404 : decode cL_about 404 = .ok (.lcmp, 1) := by decide +kernel
theorem dL_about_405 : decode cL_about 405 = .ok (.ifCond .ne 7, 3) := by decide +kernel
theorem dL_about_408 : decode cL_about 408 = .ok (.iconst 1, 1) := by decide +kernel
theorem dL_about_409 : decode cL_about 409 = .ok (.goto 4, 3) := by decide +kernel
theorem dL_about_412 : decode cL_about 412 = .ok (.iconst 0, 1) := by decide +kernel
theorem dL_about_413 : decode cL_about 413 = .ok (.ireturn, 1) := by decide +kernel
theorem dL_about_414 : decode cL_about 414 = .ok (.iload_n 3, 1) := by decide +kernel
theorem dL_about_415 : decode cL_about 415 = .ok (.iconst 2, 1) := by decide +kernel
theorem dL_about_416 : decode cL_about 416 = .ok (.irem, 1) := by decide +kernel
theorem dL_about_417 : decode cL_about 417 = .ok (.ifCond .ne 7, 3) := by decide +kernel
theorem dL_about_420 : decode cL_about 420 = .ok (.iconst 1, 1) := by decide +kernel
theorem dL_about_421 : decode cL_about 421 = .ok (.goto 4, 3) := by decide +kernel
theorem dL_about_424 : decode cL_about 424 = .ok (.iconst 0, 1) := by decide +kernel
theorem dL_about_425 : decode cL_about 425 = .ok (.istore 7, 2) := by decide +kernel
theorem dL_about_427 : decode cL_about 427 = .ok (.aload_n 0, 1) := by decide +kernel
theorem dL_about_428 : decode cL_about 428 = .ok (.iload_n 1, 1) := by decide +kernel
theorem dL_about_429 : decode cL_about 429 = .ok (.iload 7, 2) := by decide +kernel
theorem dL_about_431 : decode cL_about 431 = .ok (.invokestatic 299, 3) := by decide +kernel
theorem dL_about_434 : decode cL_about 434 = .ok (.lstore 8, 2) := by decide +kernel
theorem dL_about_436 : decode cL_about 436 = .ok (.lload 8, 2) := by decide +kernel
theorem dL_about_438 : decode cL_about 438 = .ok (.lconst 0, 1) := by decide +kernel
theorem dL_about_439 : decode cL_about 439 = .ok (.lcmp, 1) := by decide +kernel
theorem dL_about_440 : decode cL_about 440 = .ok (.ifCond .eq 10, 3) := by decide +kernel
theorem dL_about_443 : decode cL_about 443 = .ok (.lload 8, 2) := by decide +kernel
theorem dL_about_445 : decode cL_about 445 = .ok (.lconst 1, 1) := by decide +kernel
theorem dL_about_446 : decode cL_about 446 = .ok (.lcmp, 1) := by decide +kernel
theorem dL_about_447 : decode cL_about 447 = .ok (.ifCond .ne 44, 3) := by decide +kernel
theorem dL_about_450 : decode cL_about 450 = .ok (.aload_n 0, 1) := by decide +kernel
theorem dL_about_451 : decode cL_about 451 = .ok (.iload_n 1, 1) := by decide +kernel
theorem dL_about_452 : decode cL_about 452 = .ok (.iload 7, 2) := by decide +kernel
theorem dL_about_454 : decode cL_about 454 = .ok (.invokestatic 299, 3) := by decide +kernel
theorem dL_about_457 : decode cL_about 457 = .ok (.lconst 0, 1) := by decide +kernel
theorem dL_about_458 : decode cL_about 458 = .ok (.lcmp, 1) := by decide +kernel
theorem dL_about_459 : decode cL_about 459 = .ok (.ifCond .ne 32, 3) := by decide +kernel
theorem dL_about_462 : decode cL_about 462 = .ok (.iload 7, 2) := by decide +kernel
theorem dL_about_464 : decode cL_about 464 = .ok (.ifCond .ne 23, 3) := by decide +kernel
theorem dL_about_467 : decode cL_about 467 = .ok (.aload_n 0, 1) := by decide +kernel
theorem dL_about_468 : decode cL_about 468 = .ok (.iload_n 1, 1) := by decide +kernel
theorem dL_about_469 : decode cL_about 469 = .ok (.iload_n 3, 1) := by decide +kernel
theorem dL_about_470 : decode cL_about 470 = .ok (.iconst 2, 1) := by decide +kernel
theorem dL_about_471 : decode cL_about 471 = .ok (.idiv, 1) := by decide +kernel
theorem dL_about_472 : decode cL_about 472 = .ok (.bipush 16, 2) := by decide +kernel
theorem dL_about_474 : decode cL_about 474 = .ok (.irem, 1) := by decide +kernel
theorem dL_about_475 : decode cL_about 475 = .ok (.aload_n 0, 1) := by decide +kernel
theorem dL_about_476 : decode cL_about 476 = .ok (.invokevirtual 214, 3) := by decide +kernel
theorem dL_about_479 : decode cL_about 479 = .ok (.invokestatic 221, 3) := by decide +kernel
theorem dL_about_482 : decode cL_about 482 = .ok (.lconst 1, 1) := by decide +kernel
theorem dL_about_483 : decode cL_about 483 = .ok (.lcmp, 1) := by decide +kernel
theorem dL_about_484 : decode cL_about 484 = .ok (.ifCond .ne 7, 3) := by decide +kernel
theorem dL_about_487 : decode cL_about 487 = .ok (.iconst 1, 1) := by decide +kernel
theorem dL_about_488 : decode cL_about 488 = .ok (.goto 4, 3) := by decide +kernel
theorem dL_about_491 : decode cL_about 491 = .ok (.iconst 0, 1) := by decide +kernel
theorem dL_about_492 : decode cL_about 492 = .ok (.ireturn, 1) := by decide +kernel
theorem dL_law_0 : decode cL_law 0 = .ok (.new 10, 3) := by decide +kernel
theorem dL_law_3 : decode cL_law 3 = .ok (.dup, 1) := by decide +kernel
theorem dL_law_4 : decode cL_law 4 = .ok (.invokespecial 310, 3) := by decide +kernel
theorem dL_law_7 : decode cL_law 7 = .ok (.astore_n 1, 1) := by decide +kernel
theorem dL_law_8 : decode cL_law 8 = .ok (.bipush 24, 2) := by decide +kernel
theorem dL_law_10 : decode cL_law 10 = .ok (.newarray .int, 2) := by decide +kernel
theorem dL_law_12 : decode cL_law 12 = .ok (.astore_n 2, 1) := by decide +kernel
theorem dL_law_13 : decode cL_law 13 = .ok (.iconst 0, 1) := by decide +kernel
theorem dL_law_14 : decode cL_law 14 = .ok (.istore_n 3, 1) := by decide +kernel
theorem dL_law_15 : decode cL_law 15 = .ok (.aload_n 1, 1) := by decide +kernel
theorem dL_law_16 : decode cL_law 16 = .ok (.iconst 0, 1) := by decide +kernel
theorem dL_law_17 : decode cL_law 17 = .ok (.invokestatic 311, 3) := by decide +kernel
theorem dL_law_20 : decode cL_law 20 = .ok (.ifCond .eq 27, 3) := by decide +kernel
theorem dL_law_23 : decode cL_law 23 = .ok (.aload_n 1, 1) := by decide +kernel
theorem dL_law_24 : decode cL_law 24 = .ok (.iconst 0, 1) := by decide +kernel
theorem dL_law_25 : decode cL_law 25 = .ok (.invokestatic 233, 3) := by decide +kernel
theorem dL_law_28 : decode cL_law 28 = .ok (.lconst 0, 1) := by decide +kernel
theorem dL_law_29 : decode cL_law 29 = .ok (.lcmp, 1) := by decide +kernel
theorem dL_law_30 : decode cL_law 30 = .ok (.ifCond .ne 17, 3) := by decide +kernel
theorem dL_law_33 : decode cL_law 33 = .ok (.aload_n 1, 1) := by decide +kernel
theorem dL_law_34 : decode cL_law 34 = .ok (.iconst 1, 1) := by decide +kernel
theorem dL_law_35 : decode cL_law 35 = .ok (.invokestatic 233, 3) := by decide +kernel
theorem dL_law_38 : decode cL_law 38 = .ok (.lconst 1, 1) := by decide +kernel
theorem dL_law_39 : decode cL_law 39 = .ok (.lcmp, 1) := by decide +kernel
theorem dL_law_40 : decode cL_law 40 = .ok (.ifCond .ne 7, 3) := by decide +kernel
theorem dL_law_43 : decode cL_law 43 = .ok (.iconst 1, 1) := by decide +kernel
theorem dL_law_44 : decode cL_law 44 = .ok (.goto 4, 3) := by decide +kernel
theorem dL_law_47 : decode cL_law 47 = .ok (.iconst 0, 1) := by decide +kernel
theorem dL_law_48 : decode cL_law 48 = .ok (.istore 4, 2) := by decide +kernel
theorem dL_law_50 : decode cL_law 50 = .ok (.iconst 0, 1) := by decide +kernel
theorem dL_law_51 : decode cL_law 51 = .ok (.istore 5, 2) := by decide +kernel
theorem dL_law_53 : decode cL_law 53 = .ok (.iload 5, 2) := by decide +kernel
theorem dL_law_55 : decode cL_law 55 = .ok (.bipush 6, 2) := by decide +kernel
theorem dL_law_57 : decode cL_law 57 = .ok (.if_icmp .ge 78, 3) := by decide +kernel
theorem dL_law_60 : decode cL_law 60 = .ok (.iload 4, 2) := by decide +kernel
theorem dL_law_62 : decode cL_law 62 = .ok (.ifCond .eq 73, 3) := by decide +kernel
theorem dL_law_65 : decode cL_law 65 = .ok (.aload_n 1, 1) := by decide +kernel
theorem dL_law_66 : decode cL_law 66 = .ok (.iconst 0, 1) := by decide +kernel
theorem dL_law_67 : decode cL_law 67 = .ok (.iload 5, 2) := by decide +kernel
theorem dL_law_69 : decode cL_law 69 = .ok (.iload 5, 2) := by decide +kernel
theorem dL_law_71 : decode cL_law 71 = .ok (.iconst 2, 1) := by decide +kernel
theorem dL_law_72 : decode cL_law 72 = .ok (.irem, 1) := by decide +kernel
theorem dL_law_73 : decode cL_law 73 = .ok (.invokestatic 235, 3) := by decide +kernel
theorem dL_law_76 : decode cL_law 76 = .ok (.iload 5, 2) := by decide +kernel
theorem dL_law_78 : decode cL_law 78 = .ok (.i2l, 1) := by decide +kernel
theorem dL_law_79 : decode cL_law 79 = .ok (.lconst 1, 1) := by decide +kernel
theorem dL_law_80 : decode cL_law 80 = .ok (.ladd, 1) := by decide +kernel
theorem dL_law_81 : decode cL_law 81 = .ok (.lcmp, 1) := by decide +kernel
theorem dL_law_82 : decode cL_law 82 = .ok (.ifCond .ne 44, 3) := by decide +kernel
theorem dL_law_85 : decode cL_law 85 = .ok (.aload_n 1, 1) := by decide +kernel
theorem dL_law_86 : decode cL_law 86 = .ok (.iconst 1, 1) := by decide +kernel
theorem dL_law_87 : decode cL_law 87 = .ok (.iload 5, 2) := by decide +kernel
theorem dL_law_89 : decode cL_law 89 = .ok (.iconst 4, 1) := by decide +kernel
theorem dL_law_90 : decode cL_law 90 = .ok (.iadd, 1) := by decide +kernel
theorem dL_law_91 : decode cL_law 91 = .ok (.iload 5, 2) := by decide +kernel
theorem dL_law_93 : decode cL_law 93 = .ok (.iconst 3, 1) := by decide +kernel
theorem dL_law_94 : decode cL_law 94 = .ok (.idiv, 1) := by decide +kernel
theorem dL_law_95 : decode cL_law 95 = .ok (.invokestatic 235, 3) := by decide +kernel
theorem dL_law_98 : decode cL_law 98 = .ok (.iload 5, 2) := by decide +kernel
theorem dL_law_100 : decode cL_law 100 = .ok (.i2l, 1) := by decide +kernel
theorem dL_law_101 : decode cL_law 101 = .ok (.lconst 1, 1) := by decide +kernel
theorem dL_law_102 : decode cL_law 102 = .ok (.ladd, 1) := by decide +kernel
theorem dL_law_103 : decode cL_law 103 = .ok (.lcmp, 1) := by decide +kernel
theorem dL_law_104 : decode cL_law 104 = .ok (.ifCond .ne 22, 3) := by decide +kernel
theorem dL_law_107 : decode cL_law 107 = .ok (.aload_n 1, 1) := by decide +kernel
theorem dL_law_108 : decode cL_law 108 = .ok (.iconst 0, 1) := by decide +kernel
theorem dL_law_109 : decode cL_law 109 = .ok (.iload 5, 2) := by decide +kernel
theorem dL_law_111 : decode cL_law 111 = .ok (.iconst 0, 1) := by decide +kernel
theorem dL_law_112 : decode cL_law 112 = .ok (.invokestatic 235, 3) := by decide +kernel
theorem dL_law_115 : decode cL_law 115 = .ok (.ldc2_w 21, 3) := by decide +kernel
theorem dL_law_118 : decode cL_law 118 = .ok (.lcmp, 1) := by decide +kernel
theorem dL_law_119 : decode cL_law 119 = .ok (.ifCond .ne 7, 3) := by decide +kernel
theorem dL_law_122 : decode cL_law 122 = .ok (.iconst 1, 1) := by decide +kernel
theorem dL_law_123 : decode cL_law 123 = .ok (.goto 4, 3) := by decide +kernel
theorem dL_law_126 : decode cL_law 126 = .ok (.iconst 0, 1) := by decide +kernel
theorem dL_law_127 : decode cL_law 127 = .ok (.istore 4, 2) := by decide +kernel
theorem dL_law_129 : decode cL_law 129 = .ok (.iinc 5 1, 3) := by decide +kernel
theorem dL_law_132 : decode cL_law 132 = .ok (.goto (-79), 3) := by decide +kernel
theorem dL_law_135 : decode cL_law 135 = .ok (.iconst 0, 1) := by decide +kernel
theorem dL_law_136 : decode cL_law 136 = .ok (.istore 5, 2) := by decide +kernel
theorem dL_law_138 : decode cL_law 138 = .ok (.iload 5, 2) := by decide +kernel
theorem dL_law_140 : decode cL_law 140 = .ok (.bipush 46, 2) := by decide +kernel
theorem dL_law_142 : decode cL_law 142 = .ok (.if_icmp .ge 770, 3) := by decide +kernel
theorem dL_law_145 : decode cL_law 145 = .ok (.iload 4, 2) := by decide +kernel
theorem dL_law_147 : decode cL_law 147 = .ok (.ifCond .eq 765, 3) := by decide +kernel
theorem dL_law_150 : decode cL_law 150 = .ok (.aload_n 0, 1) := by decide +kernel
theorem dL_law_151 : decode cL_law 151 = .ok (.iconst 2, 1) := by decide +kernel
theorem dL_law_152 : decode cL_law 152 = .ok (.iload 5, 2) := by decide +kernel
theorem dL_law_154 : decode cL_law 154 = .ok (.imul, 1) := by decide +kernel
theorem dL_law_155 : decode cL_law 155 = .ok (.invokestatic 315, 3) := by decide +kernel
theorem dL_law_158 : decode cL_law 158 = .ok (.istore 6, 2) := by decide +kernel
theorem dL_law_160 : decode cL_law 160 = .ok (.aload_n 0, 1) := by decide +kernel
theorem dL_law_161 : decode cL_law 161 = .ok (.iconst 2, 1) := by decide +kernel
theorem dL_law_162 : decode cL_law 162 = .ok (.iload 5, 2) := by decide +kernel
theorem dL_law_164 : decode cL_law 164 = .ok (.imul, 1) := by decide +kernel
theorem dL_law_165 : decode cL_law 165 = .ok (.iconst 1, 1) := by decide +kernel
theorem dL_law_166 : decode cL_law 166 = .ok (.iadd, 1) := by decide +kernel
theorem dL_law_167 : decode cL_law 167 = .ok (.invokestatic 315, 3) := by decide +kernel
theorem dL_law_170 : decode cL_law 170 = .ok (.istore 7, 2) := by decide +kernel
theorem dL_law_172 : decode cL_law 172 = .ok (.iload 5, 2) := by decide +kernel
theorem dL_law_174 : decode cL_law 174 = .ok (.iconst 3, 1) := by decide +kernel
theorem dL_law_175 : decode cL_law 175 = .ok (.if_icmp .ge 7, 3) := by decide +kernel
theorem dL_law_178 : decode cL_law 178 = .ok (.iconst 0, 1) := by decide +kernel
theorem dL_law_179 : decode cL_law 179 = .ok (.goto 8, 3) := by decide +kernel
theorem dL_law_182 : decode cL_law 182 = .ok (.iload 6, 2) := by decide +kernel
theorem dL_law_184 : decode cL_law 184 = .ok (.bipush 16, 2) := by decide +kernel
theorem dL_law_186 : decode cL_law 186 = .ok (.irem, 1) := by decide +kernel
theorem dL_law_187 : decode cL_law 187 = .ok (.istore 8, 2) := by decide +kernel
theorem dL_law_189 : decode cL_law 189 = .ok (.aload_n 1, 1) := by decide +kernel
theorem dL_law_190 : decode cL_law 190 = .ok (.invokevirtual 206, 3) := by decide +kernel
theorem dL_law_193 : decode cL_law 193 = .ok (.istore 9, 2) := by decide +kernel
theorem dL_law_195 : decode cL_law 195 = .ok (.iload 8, 2) := by decide +kernel
theorem dL_law_197 : decode cL_law 197 = .ok (.iconst 2, 1) := by decide +kernel
theorem dL_law_198 : decode cL_law 198 = .ok (.if_icmp .ge 196, 3) := by decide +kernel
theorem dL_law_201 : decode cL_law 201 = .ok (.iload 6, 2) := by decide +kernel
theorem dL_law_203 : decode cL_law 203 = .ok (.bipush 16, 2) := by decide +kernel
theorem dL_law_205 : decode cL_law 205 = .ok (.idiv, 1) := by decide +kernel
theorem dL_law_206 : decode cL_law 206 = .ok (.iconst 2, 1) := by decide +kernel
theorem dL_law_207 : decode cL_law 207 = .ok (.irem, 1) := by decide +kernel
theorem dL_law_208 : decode cL_law 208 = .ok (.istore 10, 2) := by decide +kernel
theorem dL_law_210 : decode cL_law 210 = .ok (.iload 10, 2) := by decide +kernel
theorem dL_law_212 : decode cL_law 212 = .ok (.ifCond .ne 38, 3) := by decide +kernel
theorem dL_law_215 : decode cL_law 215 = .ok (.aload_n 1, 1) := by decide +kernel
theorem dL_law_216 : decode cL_law 216 = .ok (.iconst 0, 1) := by decide +kernel
theorem dL_law_217 : decode cL_law 217 = .ok (.iload 7, 2) := by decide +kernel
theorem dL_law_219 : decode cL_law 219 = .ok (.iconst 3, 1) := by decide +kernel
theorem dL_law_220 : decode cL_law 220 = .ok (.irem, 1) := by decide +kernel
theorem dL_law_221 : decode cL_law 221 = .ok (.iconst 2, 1) := by decide +kernel
theorem dL_law_222 : decode cL_law 222 = .ok (.imul, 1) := by decide +kernel
theorem dL_law_223 : decode cL_law 223 = .ok (.iload 7, 2) := by decide +kernel
theorem dL_law_225 : decode cL_law 225 = .ok (.iconst 3, 1) := by decide +kernel
theorem dL_law_226 : decode cL_law 226 = .ok (.idiv, 1) := by decide +kernel
theorem dL_law_227 : decode cL_law 227 = .ok (.iconst 3, 1) := by decide +kernel
theorem dL_law_228 : decode cL_law 228 = .ok (.irem, 1) := by decide +kernel
theorem dL_law_229 : decode cL_law 229 = .ok (.iconst 2, 1) := by decide +kernel
theorem dL_law_230 : decode cL_law 230 = .ok (.imul, 1) := by decide +kernel
theorem dL_law_231 : decode cL_law 231 = .ok (.iconst 1, 1) := by decide +kernel
theorem dL_law_232 : decode cL_law 232 = .ok (.iadd, 1) := by decide +kernel
theorem dL_law_233 : decode cL_law 233 = .ok (.iconst 1, 1) := by decide +kernel
theorem dL_law_234 : decode cL_law 234 = .ok (.iload 7, 2) := by decide +kernel
theorem dL_law_236 : decode cL_law 236 = .ok (.bipush 9, 2) := by decide +kernel
theorem dL_law_238 : decode cL_law 238 = .ok (.idiv, 1) := by decide +kernel
theorem dL_law_239 : decode cL_law 239 = .ok (.sipush 5000, 3) := by decide +kernel
theorem dL_law_242 : decode cL_law 242 = .ok (.irem, 1) := by decide +kernel
theorem dL_law_243 : decode cL_law 243 = .ok (.iadd, 1) := by decide +kernel
theorem dL_law_244 : decode cL_law 244 = .ok (.invokestatic 239, 3) := by decide +kernel
theorem dL_law_247 : decode cL_law 247 = .ok (.goto 34, 3) := by decide +kernel
theorem dL_law_250 : decode cL_law 250 = .ok (.aload_n 1, 1) := by decide +kernel
theorem dL_law_251 : decode cL_law 251 = .ok (.iconst 1, 1) := by decide +kernel
theorem dL_law_252 : decode cL_law 252 = .ok (.iconst 4, 1) := by decide +kernel
theorem dL_law_253 : decode cL_law 253 = .ok (.iload 7, 2) := by decide +kernel
theorem dL_law_255 : decode cL_law 255 = .ok (.iconst 3, 1) := by decide +kernel
theorem dL_law_256 : decode cL_law 256 = .ok (.irem, 1) := by decide +kernel
theorem dL_law_257 : decode cL_law 257 = .ok (.iadd, 1) := by decide +kernel
theorem dL_law_258 : decode cL_law 258 = .ok (.bipush 7, 2) := by decide +kernel
theorem dL_law_260 : decode cL_law 260 = .ok (.iload 7, 2) := by decide +kernel
theorem dL_law_262 : decode cL_law 262 = .ok (.iconst 3, 1) := by decide +kernel
theorem dL_law_263 : decode cL_law 263 = .ok (.idiv, 1) := by decide +kernel
theorem dL_law_264 : decode cL_law 264 = .ok (.iconst 3, 1) := by decide +kernel
theorem dL_law_265 : decode cL_law 265 = .ok (.irem, 1) := by decide +kernel
theorem dL_law_266 : decode cL_law 266 = .ok (.iadd, 1) := by decide +kernel
theorem dL_law_267 : decode cL_law 267 = .ok (.iconst 1, 1) := by decide +kernel
theorem dL_law_268 : decode cL_law 268 = .ok (.iload 7, 2) := by decide +kernel
theorem dL_law_270 : decode cL_law 270 = .ok (.bipush 9, 2) := by decide +kernel
theorem dL_law_272 : decode cL_law 272 = .ok (.idiv, 1) := by decide +kernel
theorem dL_law_273 : decode cL_law 273 = .ok (.sipush 5000, 3) := by decide +kernel
theorem dL_law_276 : decode cL_law 276 = .ok (.irem, 1) := by decide +kernel
theorem dL_law_277 : decode cL_law 277 = .ok (.iadd, 1) := by decide +kernel
theorem dL_law_278 : decode cL_law 278 = .ok (.invokestatic 239, 3) := by decide +kernel
theorem dL_law_281 : decode cL_law 281 = .ok (.lstore 11, 2) := by decide +kernel
theorem dL_law_283 : decode cL_law 283 = .ok (.lload 11, 2) := by decide +kernel
theorem dL_law_285 : decode cL_law 285 = .ok (.ldc2_w 21, 3) := by decide +kernel
theorem dL_law_288 : decode cL_law 288 = .ok (.lcmp, 1) := by decide +kernel
theorem dL_law_289 : decode cL_law 289 = .ok (.ifCond .eq 79, 3) := by decide +kernel
theorem dL_law_292 : decode cL_law 292 = .ok (.lload 11, 2) := by decide +kernel
theorem dL_law_294 : decode cL_law 294 = .ok (.iload_n 3, 1) := by decide +kernel
theorem dL_law_295 : decode cL_law 295 = .ok (.i2l, 1) := by decide +kernel
theorem dL_law_296 : decode cL_law 296 = .ok (.lcmp, 1) := by decide +kernel
theorem dL_law_297 : decode cL_law 297 = .ok (.ifCond .ne 75, 3) := by decide +kernel
theorem dL_law_300 : decode cL_law 300 = .ok (.aload_n 1, 1) := by decide +kernel
theorem dL_law_301 : decode cL_law 301 = .ok (.iload_n 3, 1) := by decide +kernel
theorem dL_law_302 : decode cL_law 302 = .ok (.invokestatic 182, 3) := by decide +kernel
theorem dL_law_305 : decode cL_law 305 = .ok (.lconst 0, 1) := by decide +kernel
theorem dL_law_306 : decode cL_law 306 = .ok (.lcmp, 1) := by decide +kernel
theorem dL_law_307 : decode cL_law 307 = .ok (.ifCond .ne 65, 3) := by decide +kernel
theorem dL_law_310 : decode cL_law 310 = .ok (.aload_n 1, 1) := by decide +kernel
theorem dL_law_311 : decode cL_law 311 = .ok (.iload_n 3, 1) := by decide +kernel
theorem dL_law_312 : decode cL_law 312 = .ok (.iload 7, 2) := by decide +kernel
theorem dL_law_314 : decode cL_law 314 = .ok (.iconst 3, 1) := by decide +kernel
theorem dL_law_315 : decode cL_law 315 = .ok (.irem, 1) := by decide +kernel
theorem dL_law_316 : decode cL_law 316 = .ok (.invokestatic 244, 3) := by decide +kernel
theorem dL_law_319 : decode cL_law 319 = .ok (.iload 9, 2) := by decide +kernel
theorem dL_law_321 : decode cL_law 321 = .ok (.sipush 160, 3) := by decide +kernel
theorem dL_law_324 : decode cL_law 324 = .ok (.if_icmp .ne 9, 3) := by decide +kernel
theorem dL_law_327 : decode cL_law 327 = .ok (.ldc2_w 21, 3) := by decide +kernel
theorem dL_law_330 : decode cL_law 330 = .ok (.goto 6, 3) := by decide +kernel
theorem dL_law_333 : decode cL_law 333 = .ok (.iload 9, 2) := by decide +kernel
theorem dL_law_335 : decode cL_law 335 = .ok (.i2l, 1) := by decide +kernel
theorem dL_law_336 : decode cL_law 336 = .ok (.lcmp, 1) := by decide +kernel
theorem dL_law_337 : decode cL_law 337 = .ok (.ifCond .ne 35, 3) := by decide +kernel
theorem dL_law_340 : decode cL_law 340 = .ok (.aload_n 1, 1) := by decide +kernel
theorem dL_law_341 : decode cL_law 341 = .ok (.iconst 0, 1) := by decide +kernel
theorem dL_law_342 : decode cL_law 342 = .ok (.iload_n 3, 1) := by decide +kernel
theorem dL_law_343 : decode cL_law 343 = .ok (.invokestatic 199, 3) := by decide +kernel
theorem dL_law_346 : decode cL_law 346 = .ok (.ldc2_w 204, 3) := by decide +kernel
theorem dL_law_349 : decode cL_law 349 = .ok (.lcmp, 1) := by decide +kernel
theorem dL_law_350 : decode cL_law 350 = .ok (.ifCond .eq 18, 3) := by decide +kernel
theorem dL_law_353 : decode cL_law 353 = .ok (.aload_n 1, 1) := by decide +kernel
theorem dL_law_354 : decode cL_law 354 = .ok (.iconst 0, 1) := by decide +kernel
theorem dL_law_355 : decode cL_law 355 = .ok (.iload_n 3, 1) := by decide +kernel
theorem dL_law_356 : decode cL_law 356 = .ok (.invokestatic 199, 3) := by decide +kernel
theorem dL_law_359 : decode cL_law 359 = .ok (.aload_n 1, 1) := by decide +kernel
theorem dL_law_360 : decode cL_law 360 = .ok (.invokevirtual 214, 3) := by decide +kernel
theorem dL_law_363 : decode cL_law 363 = .ok (.i2l, 1) := by decide +kernel
theorem dL_law_364 : decode cL_law 364 = .ok (.lcmp, 1) := by decide +kernel
theorem dL_law_365 : decode cL_law 365 = .ok (.ifCond .le 7, 3) := by decide +kernel
theorem dL_law_368 : decode cL_law 368 = .ok (.iconst 1, 1) := by decide +kernel
theorem dL_law_369 : decode cL_law 369 = .ok (.goto 4, 3) := by decide +kernel
theorem dL_law_372 : decode cL_law 372 = .ok (.iconst 0, 1) := by decide +kernel
theorem dL_law_373 : decode cL_law 373 = .ok (.istore 4, 2) := by decide +kernel
theorem dL_law_375 : decode cL_law 375 = .ok (.iload_n 3, 1) := by decide +kernel
theorem dL_law_376 : decode cL_law 376 = .ok (.lload 11, 2) := by decide +kernel
theorem dL_law_378 : decode cL_law 378 = .ok (.iload_n 3, 1) := by decide +kernel
theorem dL_law_379 : decode cL_law 379 = .ok (.i2l, 1) := by decide +kernel
theorem dL_law_380 : decode cL_law 380 = .ok (.lcmp, 1) := by decide +kernel
theorem dL_law_381 : decode cL_law 381 = .ok (.ifCond .ne 7, 3) := by decide +kernel
theorem dL_law_384 : decode cL_law 384 = .ok (.iconst 1, 1) := by decide +kernel
theorem dL_law_385 : decode cL_law 385 = .ok (.goto 4, 3) := by decide +kernel
theorem dL_law_388 : decode cL_law 388 = .ok (.iconst 0, 1) := by decide +kernel
theorem dL_law_389 : decode cL_law 389 = .ok (.iadd, 1) := by decide +kernel
theorem dL_law_390 : decode cL_law 390 = .ok (.istore_n 3, 1) := by decide +kernel
theorem dL_law_391 : decode cL_law 391 = .ok (.goto 446, 3) := by decide +kernel
theorem dL_law_394 : decode cL_law 394 = .ok (.iload 8, 2) := by decide +kernel
theorem dL_law_396 : decode cL_law 396 = .ok (.bipush 9, 2) := by decide +kernel
theorem dL_law_398 : decode cL_law 398 = .ok (.if_icmp .ge 29, 3) := by decide +kernel
theorem dL_law_401 : decode cL_law 401 = .ok (.aload_n 1, 1) := by decide +kernel
theorem dL_law_402 : decode cL_law 402 = .ok (.iload 7, 2) := by decide +kernel
theorem dL_law_404 : decode cL_law 404 = .ok (.iload_n 3, 1) := by decide +kernel
theorem dL_law_405 : decode cL_law 405 = .ok (.irem, 1) := by decide +kernel
theorem dL_law_406 : decode cL_law 406 = .ok (.iload 6, 2) := by decide +kernel
theorem dL_law_408 : decode cL_law 408 = .ok (.bipush 16, 2) := by decide +kernel
theorem dL_law_410 : decode cL_law 410 = .ok (.idiv, 1) := by decide +kernel
theorem dL_law_411 : decode cL_law 411 = .ok (.bipush 8, 2) := by decide +kernel
theorem dL_law_413 : decode cL_law 413 = .ok (.irem, 1) := by decide +kernel
theorem dL_law_414 : decode cL_law 414 = .ok (.iload 7, 2) := by decide +kernel
theorem dL_law_416 : decode cL_law 416 = .ok (.bipush 64, 2) := by decide +kernel
theorem dL_law_418 : decode cL_law 418 = .ok (.idiv, 1) := by decide +kernel
theorem dL_law_419 : decode cL_law 419 = .ok (.invokestatic 319, 3) := by decide +kernel
theorem dL_law_422 : decode cL_law 422 = .ok (.istore 4, 2) := by decide +kernel
theorem dL_law_424 : decode cL_law 424 = .ok (.goto 413, 3) := by decide +kernel
theorem dL_law_427 : decode cL_law 427 = .ok (.iload 8, 2) := by decide +kernel
theorem dL_law_429 : decode cL_law 429 = .ok (.bipush 12, 2) := by decide +kernel
theorem dL_law_431 : decode cL_law 431 = .ok (.if_icmp .ge 73, 3) := by decide +kernel
theorem dL_law_434 : decode cL_law 434 = .ok (.iload 9, 2) := by decide +kernel
theorem dL_law_436 : decode cL_law 436 = .ok (.ifCond .eq 58, 3) := by decide +kernel
theorem dL_law_439 : decode cL_law 439 = .ok (.aload_n 1, 1) := by decide +kernel
theorem dL_law_440 : decode cL_law 440 = .ok (.iload 6, 2) := by decide +kernel
theorem dL_law_442 : decode cL_law 442 = .ok (.bipush 16, 2) := by decide +kernel
theorem dL_law_444 : decode cL_law 444 = .ok (.idiv, 1) := by decide +kernel
theorem dL_law_445 : decode cL_law 445 = .ok (.bipush 6, 2) := by decide +kernel
theorem dL_law_447 : decode cL_law 447 = .ok (.irem, 1) := by decide +kernel
theorem dL_law_448 : decode cL_law 448 = .ok (.iconst 4, 1) := by decide +kernel
theorem dL_law_449 : decode cL_law 449 = .ok (.if_icmp .ge 21, 3) := by decide +kernel
theorem dL_law_452 : decode cL_law 452 = .ok (.iload 9, 2) := by decide +kernel
theorem dL_law_454 : decode cL_law 454 = .ok (.iconst 4, 1) := by decide +kernel
theorem dL_law_455 : decode cL_law 455 = .ok (.if_icmp .le 15, 3) := by decide +kernel
theorem dL_law_458 : decode cL_law 458 = .ok (.iload 9, 2) := by decide +kernel
theorem dL_law_460 : decode cL_law 460 = .ok (.iconst 1, 1) := by decide +kernel
theorem dL_law_461 : decode cL_law 461 = .ok (.isub, 1) := by decide +kernel
theorem dL_law_462 : decode cL_law 462 = .ok (.iload 7, 2) := by decide +kernel
theorem dL_law_464 : decode cL_law 464 = .ok (.iconst 4, 1) := by decide +kernel
theorem dL_law_465 : decode cL_law 465 = .ok (.irem, 1) := by decide +kernel
theorem dL_law_466 : decode cL_law 466 = .ok (.isub, 1) := by decide +kernel
theorem dL_law_467 : decode cL_law 467 = .ok (.goto 8, 3) := by decide +kernel
theorem dL_law_470 : decode cL_law 470 = .ok (.iload 7, 2) := by decide +kernel
theorem dL_law_472 : decode cL_law 472 = .ok (.iload 9, 2) := by decide +kernel
theorem dL_law_474 : decode cL_law 474 = .ok (.irem, 1) := by decide +kernel
theorem dL_law_475 : decode cL_law 475 = .ok (.iload 6, 2) := by decide +kernel
theorem dL_law_477 : decode cL_law 477 = .ok (.bipush 96, 2) := by decide +kernel
theorem dL_law_479 : decode cL_law 479 = .ok (.idiv, 1) := by decide +kernel
theorem dL_law_480 : decode cL_law 480 = .ok (.iconst 5, 1) := by decide +kernel
theorem dL_law_481 : decode cL_law 481 = .ok (.irem, 1) := by decide +kernel
theorem dL_law_482 : decode cL_law 482 = .ok (.iload 7, 2) := by decide +kernel
theorem dL_law_484 : decode cL_law 484 = .ok (.sipush 256, 3) := by decide +kernel
theorem dL_law_487 : decode cL_law 487 = .ok (.idiv, 1) := by decide +kernel
theorem dL_law_488 : decode cL_law 488 = .ok (.invokestatic 323, 3) := by decide +kernel
theorem dL_law_491 : decode cL_law 491 = .ok (.ifCond .eq 7, 3) := by decide +kernel
theorem dL_law_494 : decode cL_law 494 = .ok (.iconst 1, 1) := by decide +kernel
theorem dL_law_495 : decode cL_law 495 = .ok (.goto 4, 3) := by decide +kernel
theorem dL_law_498 : decode cL_law 498 = .ok (.iconst 0, 1) := by decide +kernel
theorem dL_law_499 : decode cL_law 499 = .ok (.istore 4, 2) := by decide +kernel
theorem dL_law_501 : decode cL_law 501 = .ok (.goto 336, 3) := by decide +kernel
theorem dL_law_504 : decode cL_law 504 = .ok (.iload 8, 2) := by decide +kernel
theorem dL_law_506 : decode cL_law 506 = .ok (.bipush 13, 2) := by decide +kernel
theorem dL_law_508 : decode cL_law 508 = .ok (.if_icmp .ge 86, 3) := by decide +kernel
theorem dL_law_511 : decode cL_law 511 = .ok (.aload_n 1, 1) := by decide +kernel
theorem dL_law_512 : decode cL_law 512 = .ok (.iload 6, 2) := by decide +kernel
theorem dL_law_514 : decode cL_law 514 = .ok (.bipush 16, 2) := by decide +kernel
theorem dL_law_516 : decode cL_law 516 = .ok (.idiv, 1) := by decide +kernel
theorem dL_law_517 : decode cL_law 517 = .ok (.iconst 2, 1) := by decide +kernel
theorem dL_law_518 : decode cL_law 518 = .ok (.irem, 1) := by decide +kernel
theorem dL_law_519 : decode cL_law 519 = .ok (.iload 7, 2) := by decide +kernel
theorem dL_law_521 : decode cL_law 521 = .ok (.iconst 2, 1) := by decide +kernel
theorem dL_law_522 : decode cL_law 522 = .ok (.irem, 1) := by decide +kernel
theorem dL_law_523 : decode cL_law 523 = .ok (.ifCond .ne 7, 3) := by decide +kernel
theorem dL_law_526 : decode cL_law 526 = .ok (.iconst 1, 1) := by decide +kernel
theorem dL_law_527 : decode cL_law 527 = .ok (.goto 4, 3) := by decide +kernel
theorem dL_law_530 : decode cL_law 530 = .ok (.iconst 0, 1) := by decide +kernel
theorem dL_law_531 : decode cL_law 531 = .ok (.invokestatic 266, 3) := by decide +kernel
theorem dL_law_534 : decode cL_law 534 = .ok (.lstore 10, 2) := by decide +kernel
theorem dL_law_536 : decode cL_law 536 = .ok (.lload 10, 2) := by decide +kernel
theorem dL_law_538 : decode cL_law 538 = .ok (.ldc2_w 21, 3) := by decide +kernel
theorem dL_law_541 : decode cL_law 541 = .ok (.lcmp, 1) := by decide +kernel
theorem dL_law_542 : decode cL_law 542 = .ok (.ifCond .eq 42, 3) := by decide +kernel
theorem dL_law_545 : decode cL_law 545 = .ok (.lload 10, 2) := by decide +kernel
theorem dL_law_547 : decode cL_law 547 = .ok (.iload 9, 2) := by decide +kernel
theorem dL_law_549 : decode cL_law 549 = .ok (.i2l, 1) := by decide +kernel
theorem dL_law_550 : decode cL_law 550 = .ok (.lcmp, 1) := by decide +kernel
theorem dL_law_551 : decode cL_law 551 = .ok (.ifCond .ne 37, 3) := by decide +kernel
theorem dL_law_554 : decode cL_law 554 = .ok (.aload_n 1, 1) := by decide +kernel
theorem dL_law_555 : decode cL_law 555 = .ok (.iload 6, 2) := by decide +kernel
theorem dL_law_557 : decode cL_law 557 = .ok (.bipush 16, 2) := by decide +kernel
theorem dL_law_559 : decode cL_law 559 = .ok (.idiv, 1) := by decide +kernel
theorem dL_law_560 : decode cL_law 560 = .ok (.iconst 2, 1) := by decide +kernel
theorem dL_law_561 : decode cL_law 561 = .ok (.irem, 1) := by decide +kernel
theorem dL_law_562 : decode cL_law 562 = .ok (.iload 7, 2) := by decide +kernel
theorem dL_law_564 : decode cL_law 564 = .ok (.iconst 2, 1) := by decide +kernel
theorem dL_law_565 : decode cL_law 565 = .ok (.irem, 1) := by decide +kernel
theorem dL_law_566 : decode cL_law 566 = .ok (.ifCond .ne 7, 3) := by decide +kernel
theorem dL_law_569 : decode cL_law 569 = .ok (.iconst 1, 1) := by decide +kernel
theorem dL_law_570 : decode cL_law 570 = .ok (.goto 4, 3) := by decide +kernel
theorem dL_law_573 : decode cL_law 573 = .ok (.iconst 0, 1) := by decide +kernel
theorem dL_law_574 : decode cL_law 574 = .ok (.invokestatic 266, 3) := by decide +kernel
theorem dL_law_577 : decode cL_law 577 = .ok (.ldc2_w 21, 3) := by decide +kernel
theorem dL_law_580 : decode cL_law 580 = .ok (.lcmp, 1) := by decide +kernel
theorem dL_law_581 : decode cL_law 581 = .ok (.ifCond .ne 7, 3) := by decide +kernel
theorem dL_law_584 : decode cL_law 584 = .ok (.iconst 1, 1) := by decide +kernel
theorem dL_law_585 : decode cL_law 585 = .ok (.goto 4, 3) := by decide +kernel
theorem dL_law_588 : decode cL_law 588 = .ok (.iconst 0, 1) := by decide +kernel
theorem dL_law_589 : decode cL_law 589 = .ok (.istore 4, 2) := by decide +kernel
theorem dL_law_591 : decode cL_law 591 = .ok (.goto 246, 3) := by decide +kernel
theorem dL_law_594 : decode cL_law 594 = .ok (.iload 8, 2) := by decide +kernel
theorem dL_law_596 : decode cL_law 596 = .ok (.bipush 14, 2) := by decide +kernel
theorem dL_law_598 : decode cL_law 598 = .ok (.if_icmp .ge 164, 3) := by decide +kernel
theorem dL_law_601 : decode cL_law 601 = .ok (.aload_n 1, 1) := by decide +kernel
theorem dL_law_602 : decode cL_law 602 = .ok (.iconst 0, 1) := by decide +kernel
theorem dL_law_603 : decode cL_law 603 = .ok (.iload 7, 2) := by decide +kernel
theorem dL_law_605 : decode cL_law 605 = .ok (.iload_n 3, 1) := by decide +kernel
theorem dL_law_606 : decode cL_law 606 = .ok (.irem, 1) := by decide +kernel
theorem dL_law_607 : decode cL_law 607 = .ok (.invokestatic 199, 3) := by decide +kernel
theorem dL_law_610 : decode cL_law 610 = .ok (.lstore 10, 2) := by decide +kernel
theorem dL_law_612 : decode cL_law 612 = .ok (.aload_n 1, 1) := by decide +kernel
theorem dL_law_613 : decode cL_law 613 = .ok (.iconst 0, 1) := by decide +kernel
theorem dL_law_614 : decode cL_law 614 = .ok (.iload 7, 2) := by decide +kernel
theorem dL_law_616 : decode cL_law 616 = .ok (.iload_n 3, 1) := by decide +kernel
theorem dL_law_617 : decode cL_law 617 = .ok (.irem, 1) := by decide +kernel
theorem dL_law_618 : decode cL_law 618 = .ok (.iconst 1, 1) := by decide +kernel
theorem dL_law_619 : decode cL_law 619 = .ok (.iload 7, 2) := by decide +kernel
theorem dL_law_621 : decode cL_law 621 = .ok (.bipush 64, 2) := by decide +kernel
theorem dL_law_623 : decode cL_law 623 = .ok (.idiv, 1) := by decide +kernel
theorem dL_law_624 : decode cL_law 624 = .ok (.bipush 9, 2) := by decide +kernel
theorem dL_law_626 : decode cL_law 626 = .ok (.irem, 1) := by decide +kernel
theorem dL_law_627 : decode cL_law 627 = .ok (.iadd, 1) := by decide +kernel
theorem dL_law_628 : decode cL_law 628 = .ok (.invokestatic 273, 3) := by decide +kernel
theorem dL_law_631 : decode cL_law 631 = .ok (.lstore 12, 2) := by decide +kernel
theorem dL_law_633 : decode cL_law 633 = .ok (.lload 12, 2) := by decide +kernel
theorem dL_law_635 : decode cL_law 635 = .ok (.ldc2_w 21, 3) := by decide +kernel
theorem dL_law_638 : decode cL_law 638 = .ok (.lcmp, 1) := by decide +kernel
theorem dL_law_639 : decode cL_law 639 = .ok (.ifCond .ne 7, 3) := by decide +kernel
theorem dL_law_642 : decode cL_law 642 = .ok (.iconst 1, 1) := by decide +kernel
theorem dL_law_643 : decode cL_law 643 = .ok (.goto 4, 3) := by decide +kernel
theorem dL_law_646 : decode cL_law 646 = .ok (.iconst 0, 1) := by decide +kernel
theorem dL_law_647 : decode cL_law 647 = .ok (.lload 10, 2) := by decide +kernel
theorem dL_law_649 : decode cL_law 649 = .ok (.ldc2_w 204, 3) := by decide +kernel
theorem dL_law_652 : decode cL_law 652 = .ok (.lcmp, 1) := by decide +kernel
theorem dL_law_653 : decode cL_law 653 = .ok (.ifCond .eq 14, 3) := by decide +kernel
theorem dL_law_656 : decode cL_law 656 = .ok (.lload 10, 2) := by decide +kernel
theorem dL_law_658 : decode cL_law 658 = .ok (.aload_n 1, 1) := by decide +kernel
theorem dL_law_659 : decode cL_law 659 = .ok (.invokevirtual 214, 3) := by decide +kernel
theorem dL_law_662 : decode cL_law 662 = .ok (.i2l, 1) := by decide +kernel
theorem dL_law_663 : decode cL_law 663 = .ok (.lcmp, 1) := by decide +kernel
theorem dL_law_664 : decode cL_law 664 = .ok (.ifCond .ge 7, 3) := by decide +kernel
theorem dL_law_667 : decode cL_law 667 = .ok (.iconst 1, 1) := by decide +kernel
theorem dL_law_668 : decode cL_law 668 = .ok (.goto 4, 3) := by decide +kernel
theorem dL_law_671 : decode cL_law 671 = .ok (.iconst 0, 1) := by decide +kernel
theorem dL_law_672 : decode cL_law 672 = .ok (.if_icmp .ne 84, 3) := by decide +kernel
theorem dL_law_675 : decode cL_law 675 = .ok (.lload 12, 2) := by decide +kernel
theorem dL_law_677 : decode cL_law 677 = .ok (.ldc2_w 21, 3) := by decide +kernel
theorem dL_law_680 : decode cL_law 680 = .ok (.lcmp, 1) := by decide +kernel
theorem dL_law_681 : decode cL_law 681 = .ok (.ifCond .eq 20, 3) := by decide +kernel
theorem dL_law_684 : decode cL_law 684 = .ok (.lload 12, 2) := by decide +kernel
theorem dL_law_686 : decode cL_law 686 = .ok (.ldc2_w 204, 3) := by decide +kernel
theorem dL_law_689 : decode cL_law 689 = .ok (.lcmp, 1) := by decide +kernel
theorem dL_law_690 : decode cL_law 690 = .ok (.ifCond .eq 11, 3) := by decide +kernel
theorem dL_law_693 : decode cL_law 693 = .ok (.lload 12, 2) := by decide +kernel
theorem dL_law_695 : decode cL_law 695 = .ok (.lload 10, 2) := by decide +kernel
theorem dL_law_697 : decode cL_law 697 = .ok (.lcmp, 1) := by decide +kernel
theorem dL_law_698 : decode cL_law 698 = .ok (.ifCond .lt 58, 3) := by decide +kernel
theorem dL_law_701 : decode cL_law 701 = .ok (.iload 7, 2) := by decide +kernel
theorem dL_law_703 : decode cL_law 703 = .ok (.sipush 1024, 3) := by decide +kernel
theorem dL_law_706 : decode cL_law 706 = .ok (.idiv, 1) := by decide +kernel
theorem dL_law_707 : decode cL_law 707 = .ok (.iconst 4, 1) := by decide +kernel
theorem dL_law_708 : decode cL_law 708 = .ok (.irem, 1) := by decide +kernel
theorem dL_law_709 : decode cL_law 709 = .ok (.ifCond .gt 43, 3) := by decide +kernel
theorem dL_law_712 : decode cL_law 712 = .ok (.aload_n 1, 1) := by decide +kernel
theorem dL_law_713 : decode cL_law 713 = .ok (.iload 7, 2) := by decide +kernel
theorem dL_law_715 : decode cL_law 715 = .ok (.sipush 4096, 3) := by decide +kernel
theorem dL_law_718 : decode cL_law 718 = .ok (.idiv, 1) := by decide +kernel
theorem dL_law_719 : decode cL_law 719 = .ok (.iconst 5, 1) := by decide +kernel
theorem dL_law_720 : decode cL_law 720 = .ok (.irem, 1) := by decide +kernel
theorem dL_law_721 : decode cL_law 721 = .ok (.iconst 1, 1) := by decide +kernel
theorem dL_law_722 : decode cL_law 722 = .ok (.iload 7, 2) := by decide +kernel
theorem dL_law_724 : decode cL_law 724 = .ok (.ldc_w 326, 3) := by decide +kernel
theorem dL_law_727 : decode cL_law 727 = .ok (.idiv, 1) := by decide +kernel
theorem dL_law_728 : decode cL_law 728 = .ok (.bipush 30, 2) := by decide +kernel
theorem dL_law_730 : decode cL_law 730 = .ok (.irem, 1) := by decide +kernel
theorem dL_law_731 : decode cL_law 731 = .ok (.iadd, 1) := by decide +kernel
theorem dL_law_732 : decode cL_law 732 = .ok (.iload 7, 2) := by decide +kernel
theorem dL_law_734 : decode cL_law 734 = .ok (.iconst 2, 1) := by decide +kernel
theorem dL_law_735 : decode cL_law 735 = .ok (.irem, 1) := by decide +kernel
theorem dL_law_736 : decode cL_law 736 = .ok (.ifCond .ne 7, 3) := by decide +kernel
theorem dL_law_739 : decode cL_law 739 = .ok (.iconst 1, 1) := by decide +kernel
theorem dL_law_740 : decode cL_law 740 = .ok (.goto 4, 3) := by decide +kernel
theorem dL_law_743 : decode cL_law 743 = .ok (.iconst 0, 1) := by decide +kernel
theorem dL_law_744 : decode cL_law 744 = .ok (.invokestatic 230, 3) := by decide +kernel
theorem dL_law_747 : decode cL_law 747 = .ok (.lconst 1, 1) := by decide +kernel
theorem dL_law_748 : decode cL_law 748 = .ok (.lcmp, 1) := by decide +kernel
theorem dL_law_749 : decode cL_law 749 = .ok (.ifCond .lt 7, 3) := by decide +kernel
theorem dL_law_752 : decode cL_law 752 = .ok (.iconst 1, 1) := by decide +kernel
theorem dL_law_753 : decode cL_law 753 = .ok (.goto 4, 3) := by decide +kernel
theorem dL_law_756 : decode cL_law 756 = .ok (.iconst 0, 1) := by decide +kernel
theorem dL_law_757 : decode cL_law 757 = .ok (.istore 4, 2) := by decide +kernel
theorem dL_law_759 : decode cL_law 759 = .ok (.goto 78, 3) := by decide +kernel
theorem dL_law_762 : decode cL_law 762 = .ok (.aload_n 1, 1) := by decide +kernel
theorem dL_law_763 : decode cL_law 763 = .ok (.invokevirtual 214, 3) := by decide +kernel
theorem dL_law_766 : decode cL_law 766 = .ok (.istore 10, 2) := by decide +kernel
theorem dL_law_768 : decode cL_law 768 = .ok (.aload_n 1, 1) := by decide +kernel
theorem dL_law_769 : decode cL_law 769 = .ok (.iconst 1, 1) := by decide +kernel
theorem dL_law_770 : decode cL_law 770 = .ok (.iload 7, 2) := by decide +kernel
theorem dL_law_772 : decode cL_law 772 = .ok (.bipush 17, 2) := by decide +kernel
theorem dL_law_774 : decode cL_law 774 = .ok (.irem, 1) := by decide +kernel
theorem dL_law_775 : decode cL_law 775 = .ok (.iadd, 1) := by decide +kernel
theorem dL_law_776 : decode cL_law 776 = .ok (.invokestatic 226, 3) := by decide +kernel
theorem dL_law_779 : decode cL_law 779 = .ok (.iload 10, 2) := by decide +kernel
theorem dL_law_781 : decode cL_law 781 = .ok (.iconst 1, 1) := by decide +kernel
theorem dL_law_782 : decode cL_law 782 = .ok (.iadd, 1) := by decide +kernel
theorem dL_law_783 : decode cL_law 783 = .ok (.iload 7, 2) := by decide +kernel
theorem dL_law_785 : decode cL_law 785 = .ok (.bipush 17, 2) := by decide +kernel
theorem dL_law_787 : decode cL_law 787 = .ok (.irem, 1) := by decide +kernel
theorem dL_law_788 : decode cL_law 788 = .ok (.iadd, 1) := by decide +kernel
theorem dL_law_789 : decode cL_law 789 = .ok (.i2l, 1) := by decide +kernel
theorem dL_law_790 : decode cL_law 790 = .ok (.lcmp, 1) := by decide +kernel
theorem dL_law_791 : decode cL_law 791 = .ok (.ifCond .ne 43, 3) := by decide +kernel
theorem dL_law_794 : decode cL_law 794 = .ok (.iload 7, 2) := by decide +kernel
theorem dL_law_796 : decode cL_law 796 = .ok (.bipush 17, 2) := by decide +kernel
theorem dL_law_798 : decode cL_law 798 = .ok (.idiv, 1) := by decide +kernel
theorem dL_law_799 : decode cL_law 799 = .ok (.iconst 3, 1) := by decide +kernel
theorem dL_law_800 : decode cL_law 800 = .ok (.irem, 1) := by decide +kernel
theorem dL_law_801 : decode cL_law 801 = .ok (.ifCond .gt 29, 3) := by decide +kernel
theorem dL_law_804 : decode cL_law 804 = .ok (.aload_n 1, 1) := by decide +kernel
theorem dL_law_805 : decode cL_law 805 = .ok (.aload_n 1, 1) := by decide +kernel
theorem dL_law_806 : decode cL_law 806 = .ok (.invokevirtual 214, 3) := by decide +kernel
theorem dL_law_809 : decode cL_law 809 = .ok (.iconst 1, 1) := by decide +kernel
theorem dL_law_810 : decode cL_law 810 = .ok (.iadd, 1) := by decide +kernel
theorem dL_law_811 : decode cL_law 811 = .ok (.iload 7, 2) := by decide +kernel
theorem dL_law_813 : decode cL_law 813 = .ok (.bipush 51, 2) := by decide +kernel
theorem dL_law_815 : decode cL_law 815 = .ok (.idiv, 1) := by decide +kernel
theorem dL_law_816 : decode cL_law 816 = .ok (.bipush 9, 2) := by decide +kernel
theorem dL_law_818 : decode cL_law 818 = .ok (.irem, 1) := by decide +kernel
theorem dL_law_819 : decode cL_law 819 = .ok (.iadd, 1) := by decide +kernel
theorem dL_law_820 : decode cL_law 820 = .ok (.invokestatic 228, 3) := by decide +kernel
theorem dL_law_823 : decode cL_law 823 = .ok (.ldc2_w 21, 3) := by decide +kernel
theorem dL_law_826 : decode cL_law 826 = .ok (.lcmp, 1) := by decide +kernel
theorem dL_law_827 : decode cL_law 827 = .ok (.ifCond .lt 7, 3) := by decide +kernel
theorem dL_law_830 : decode cL_law 830 = .ok (.iconst 1, 1) := by decide +kernel
theorem dL_law_831 : decode cL_law 831 = .ok (.goto 4, 3) := by decide +kernel
theorem dL_law_834 : decode cL_law 834 = .ok (.iconst 0, 1) := by decide +kernel
theorem dL_law_835 : decode cL_law 835 = .ok (.istore 4, 2) := by decide +kernel
theorem dL_law_837 : decode cL_law 837 = .ok (.iload 4, 2) := by decide +kernel
theorem dL_law_839 : decode cL_law 839 = .ok (.ifCond .eq 34, 3) := by decide +kernel
theorem dL_law_842 : decode cL_law 842 = .ok (.aload_n 1, 1) := by decide +kernel
theorem dL_law_843 : decode cL_law 843 = .ok (.iload_n 3, 1) := by decide +kernel
theorem dL_law_844 : decode cL_law 844 = .ok (.aload_n 2, 1) := by decide +kernel
theorem dL_law_845 : decode cL_law 845 = .ok (.iload 7, 2) := by decide +kernel
theorem dL_law_847 : decode cL_law 847 = .ok (.invokestatic 327, 3) := by decide +kernel
theorem dL_law_850 : decode cL_law 850 = .ok (.ifCond .eq 23, 3) := by decide +kernel
theorem dL_law_853 : decode cL_law 853 = .ok (.iload 5, 2) := by decide +kernel
theorem dL_law_855 : decode cL_law 855 = .ok (.iconst 5, 1) := by decide +kernel
theorem dL_law_856 : decode cL_law 856 = .ok (.irem, 1) := by decide +kernel
theorem dL_law_857 : decode cL_law 857 = .ok (.ifCond .gt 12, 3) := by decide +kernel
theorem dL_law_860 : decode cL_law 860 = .ok (.aload_n 1, 1) := by decide +kernel
theorem dL_law_861 : decode cL_law 861 = .ok (.iload 6, 2) := by decide +kernel
theorem dL_law_863 : decode cL_law 863 = .ok (.invokestatic 331, 3) := by decide +kernel
theorem dL_law_866 : decode cL_law 866 = .ok (.ifCond .eq 7, 3) := by decide +kernel
theorem dL_law_869 : decode cL_law 869 = .ok (.iconst 1, 1) := by decide +kernel
theorem dL_law_870 : decode cL_law 870 = .ok (.goto 4, 3) := by decide +kernel
theorem dL_law_873 : decode cL_law 873 = .ok (.iconst 0, 1) := by decide +kernel
theorem dL_law_874 : decode cL_law 874 = .ok (.istore 4, 2) := by decide +kernel
theorem dL_law_876 : decode cL_law 876 = .ok (.iload 5, 2) := by decide +kernel
theorem dL_law_878 : decode cL_law 878 = .ok (.bipush 15, 2) := by decide +kernel
theorem dL_law_880 : decode cL_law 880 = .ok (.irem, 1) := by decide +kernel
theorem dL_law_881 : decode cL_law 881 = .ok (.bipush 14, 2) := by decide +kernel
theorem dL_law_883 : decode cL_law 883 = .ok (.if_icmp .ne 23, 3) := by decide +kernel
theorem dL_law_886 : decode cL_law 886 = .ok (.iload 4, 2) := by decide +kernel
theorem dL_law_888 : decode cL_law 888 = .ok (.ifCond .eq 15, 3) := by decide +kernel
theorem dL_law_891 : decode cL_law 891 = .ok (.aload_n 1, 1) := by decide +kernel
theorem dL_law_892 : decode cL_law 892 = .ok (.iload_n 3, 1) := by decide +kernel
theorem dL_law_893 : decode cL_law 893 = .ok (.invokestatic 311, 3) := by decide +kernel
theorem dL_law_896 : decode cL_law 896 = .ok (.ifCond .eq 7, 3) := by decide +kernel
theorem dL_law_899 : decode cL_law 899 = .ok (.iconst 1, 1) := by decide +kernel
theorem dL_law_900 : decode cL_law 900 = .ok (.goto 4, 3) := by decide +kernel
theorem dL_law_903 : decode cL_law 903 = .ok (.iconst 0, 1) := by decide +kernel
theorem dL_law_904 : decode cL_law 904 = .ok (.istore 4, 2) := by decide +kernel
theorem dL_law_906 : decode cL_law 906 = .ok (.iinc 5 1, 3) := by decide +kernel
theorem dL_law_909 : decode cL_law 909 = .ok (.goto (-771), 3) := by decide +kernel
theorem dL_law_912 : decode cL_law 912 = .ok (.iload 4, 2) := by decide +kernel
theorem dL_law_914 : decode cL_law 914 = .ok (.ifCond .eq 15, 3) := by decide +kernel
theorem dL_law_917 : decode cL_law 917 = .ok (.aload_n 1, 1) := by decide +kernel
theorem dL_law_918 : decode cL_law 918 = .ok (.iconst 3, 1) := by decide +kernel
theorem dL_law_919 : decode cL_law 919 = .ok (.invokestatic 331, 3) := by decide +kernel
theorem dL_law_922 : decode cL_law 922 = .ok (.ifCond .eq 7, 3) := by decide +kernel
theorem dL_law_925 : decode cL_law 925 = .ok (.iconst 1, 1) := by decide +kernel
theorem dL_law_926 : decode cL_law 926 = .ok (.goto 4, 3) := by decide +kernel
theorem dL_law_929 : decode cL_law 929 = .ok (.iconst 0, 1) := by decide +kernel
theorem dL_law_930 : decode cL_law 930 = .ok (.ireturn, 1) := by decide +kernel
