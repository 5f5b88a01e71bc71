theorem dL_pass_0 : decode cL_pass 0 = .ok (.aload_n 2, 1) := by decide +kernel
theorem dL_pass_1 : decode cL_pass 1 = .ok (.iconst 0, 1) := by decide +kernel
theorem dL_pass_2 : decode cL_pass 2 = .ok (.aload_n 0, 1) := by decide +kernel
theorem dL_pass_3 : decode cL_pass 3 = .ok (.iload_n 1, 1) := by decide +kernel
theorem dL_pass_4 : decode cL_pass 4 = .ok (.invokevirtual 7, 3) := by decide +kernel
theorem dL_pass_7 : decode cL_pass 7 = .ok (.i2l, 1) := by decide +kernel
theorem dL_pass_8 : decode cL_pass 8 = .ok (.lastore, 1) := by decide +kernel
theorem dL_pass_9 : decode cL_pass 9 = .ok (.goto 9, 3) := by decide +kernel
theorem dL_pass_12 : decode cL_pass 12 = .ok (.astore_n 3, 1) := by decide +kernel
theorem dL_pass_13 : decode cL_pass 13 = .ok (.iconst 1, 1) := by decide +kernel
theorem dL_pass_14 : decode cL_pass 14 = .ok (.ireturn, 1) := by decide +kernel
theorem dL_pass_15 : decode cL_pass 15 = .ok (.astore_n 3, 1) := by decide +kernel
theorem dL_pass_16 : decode cL_pass 16 = .ok (.iconst 2, 1) := by decide +kernel
theorem dL_pass_17 : decode cL_pass 17 = .ok (.ireturn, 1) := by decide +kernel
theorem dL_pass_18 : decode cL_pass 18 = .ok (.iconst 0, 1) := by decide +kernel
theorem dL_pass_19 : decode cL_pass 19 = .ok (.ireturn, 1) := by decide +kernel
theorem dL_holiday_0 : decode cL_holiday 0 = .ok (.aload_n 2, 1) := by decide +kernel
theorem dL_holiday_1 : decode cL_holiday 1 = .ok (.iconst 0, 1) := by decide +kernel
theorem dL_holiday_2 : decode cL_holiday 2 = .ok (.aload_n 0, 1) := by decide +kernel
theorem dL_holiday_3 : decode cL_holiday 3 = .ok (.iload_n 1, 1) := by decide +kernel
theorem dL_holiday_4 : decode cL_holiday 4 = .ok (.invokevirtual 17, 3) := by decide +kernel
theorem dL_holiday_7 : decode cL_holiday 7 = .ok (.ifCond .eq 7, 3) := by decide +kernel
theorem dL_holiday_10 : decode cL_holiday 10 = .ok (.lconst 1, 1) := by decide +kernel
theorem dL_holiday_11 : decode cL_holiday 11 = .ok (.goto 4, 3) := by decide +kernel
theorem dL_holiday_14 : decode cL_holiday 14 = .ok (.lconst 0, 1) := by decide +kernel
theorem dL_holiday_15 : decode cL_holiday 15 = .ok (.lastore, 1) := by decide +kernel
theorem dL_holiday_16 : decode cL_holiday 16 = .ok (.goto 9, 3) := by decide +kernel
theorem dL_holiday_19 : decode cL_holiday 19 = .ok (.astore_n 3, 1) := by decide +kernel
theorem dL_holiday_20 : decode cL_holiday 20 = .ok (.iconst 1, 1) := by decide +kernel
theorem dL_holiday_21 : decode cL_holiday 21 = .ok (.ireturn, 1) := by decide +kernel
theorem dL_holiday_22 : decode cL_holiday 22 = .ok (.astore_n 3, 1) := by decide +kernel
theorem dL_holiday_23 : decode cL_holiday 23 = .ok (.iconst 2, 1) := by decide +kernel
theorem dL_holiday_24 : decode cL_holiday 24 = .ok (.ireturn, 1) := by decide +kernel
theorem dL_holiday_25 : decode cL_holiday 25 = .ok (.iconst 0, 1) := by decide +kernel
theorem dL_holiday_26 : decode cL_holiday 26 = .ok (.ireturn, 1) := by decide +kernel
theorem dL_setRule_0 : decode cL_setRule 0 = .ok (.aload 4, 2) := by decide +kernel
theorem dL_setRule_2 : decode cL_setRule 2 = .ok (.iconst 0, 1) := by decide +kernel
theorem dL_setRule_3 : decode cL_setRule 3 = .ok (.aload_n 0, 1) := by decide +kernel
theorem dL_setRule_4 : decode cL_setRule 4 = .ok (.iload_n 1, 1) := by decide +kernel
theorem dL_setRule_5 : decode cL_setRule 5 = .ok (.iload_n 2, 1) := by decide +kernel
theorem dL_setRule_6 : decode cL_setRule 6 = .ok (.iload_n 3, 1) := by decide +kernel
theorem dL_setRule_7 : decode cL_setRule 7 = .ok (.invokevirtual 21, 3) := by decide +kernel
theorem dL_setRule_10 : decode cL_setRule 10 = .ok (.i2l, 1) := by decide +kernel
theorem dL_setRule_11 : decode cL_setRule 11 = .ok (.lastore, 1) := by decide +kernel
theorem dL_setRule_12 : decode cL_setRule 12 = .ok (.goto 11, 3) := by decide +kernel
theorem dL_setRule_15 : decode cL_setRule 15 = .ok (.astore 5, 2) := by decide +kernel
theorem dL_setRule_17 : decode cL_setRule 17 = .ok (.iconst 1, 1) := by decide +kernel
theorem dL_setRule_18 : decode cL_setRule 18 = .ok (.ireturn, 1) := by decide +kernel
theorem dL_setRule_19 : decode cL_setRule 19 = .ok (.astore 5, 2) := by decide +kernel
theorem dL_setRule_21 : decode cL_setRule 21 = .ok (.iconst 2, 1) := by decide +kernel
theorem dL_setRule_22 : decode cL_setRule 22 = .ok (.ireturn, 1) := by decide +kernel
theorem dL_setRule_23 : decode cL_setRule 23 = .ok (.iconst 0, 1) := by decide +kernel
theorem dL_setRule_24 : decode cL_setRule 24 = .ok (.ireturn, 1) := by decide +kernel
theorem dL_open_0 : decode cL_open 0 = .ok (.aload_n 2, 1) := by decide +kernel
theorem dL_open_1 : decode cL_open 1 = .ok (.iconst 0, 1) := by decide +kernel
theorem dL_open_2 : decode cL_open 2 = .ok (.aload_n 0, 1) := by decide +kernel
theorem dL_open_3 : decode cL_open 3 = .ok (.iload_n 1, 1) := by decide +kernel
theorem dL_open_4 : decode cL_open 4 = .ok (.invokevirtual 27, 3) := by decide +kernel
theorem dL_open_7 : decode cL_open 7 = .ok (.i2l, 1) := by decide +kernel
theorem dL_open_8 : decode cL_open 8 = .ok (.lastore, 1) := by decide +kernel
theorem dL_open_9 : decode cL_open 9 = .ok (.goto 9, 3) := by decide +kernel
theorem dL_open_12 : decode cL_open 12 = .ok (.astore_n 3, 1) := by decide +kernel
theorem dL_open_13 : decode cL_open 13 = .ok (.iconst 1, 1) := by decide +kernel
theorem dL_open_14 : decode cL_open 14 = .ok (.ireturn, 1) := by decide +kernel
theorem dL_open_15 : decode cL_open 15 = .ok (.astore_n 3, 1) := by decide +kernel
theorem dL_open_16 : decode cL_open 16 = .ok (.iconst 2, 1) := by decide +kernel
theorem dL_open_17 : decode cL_open 17 = .ok (.ireturn, 1) := by decide +kernel
theorem dL_open_18 : decode cL_open 18 = .ok (.iconst 0, 1) := by decide +kernel
theorem dL_open_19 : decode cL_open 19 = .ok (.ireturn, 1) := by decide +kernel
theorem dL_join_0 : decode cL_join 0 = .ok (.aload 4, 2) := by decide +kernel
theorem dL_join_2 : decode cL_join 2 = .ok (.iconst 0, 1) := by decide +kernel
theorem dL_join_3 : decode cL_join 3 = .ok (.aload_n 0, 1) := by decide +kernel
theorem dL_join_4 : decode cL_join 4 = .ok (.iload_n 1, 1) := by decide +kernel
theorem dL_join_5 : decode cL_join 5 = .ok (.iload_n 2, 1) := by decide +kernel
theorem dL_join_6 : decode cL_join 6 = .ok (.iload_n 3, 1) := by decide +kernel
theorem dL_join_7 : decode cL_join 7 = .ok (.invokevirtual 30, 3) := by decide +kernel
theorem dL_join_10 : decode cL_join 10 = .ok (.i2l, 1) := by decide +kernel
theorem dL_join_11 : decode cL_join 11 = .ok (.lastore, 1) := by decide +kernel
theorem dL_join_12 : decode cL_join 12 = .ok (.goto 11, 3) := by decide +kernel
theorem dL_join_15 : decode cL_join 15 = .ok (.astore 5, 2) := by decide +kernel
theorem dL_join_17 : decode cL_join 17 = .ok (.iconst 1, 1) := by decide +kernel
theorem dL_join_18 : decode cL_join 18 = .ok (.ireturn, 1) := by decide +kernel
theorem dL_join_19 : decode cL_join 19 = .ok (.astore 5, 2) := by decide +kernel
theorem dL_join_21 : decode cL_join 21 = .ok (.iconst 2, 1) := by decide +kernel
theorem dL_join_22 : decode cL_join 22 = .ok (.ireturn, 1) := by decide +kernel
theorem dL_join_23 : decode cL_join 23 = .ok (.iconst 0, 1) := by decide +kernel
theorem dL_join_24 : decode cL_join 24 = .ok (.ireturn, 1) := by decide +kernel
theorem dL_lead_0 : decode cL_lead 0 = .ok (.aload_n 3, 1) := by decide +kernel
theorem dL_lead_1 : decode cL_lead 1 = .ok (.iconst 0, 1) := by decide +kernel
theorem dL_lead_2 : decode cL_lead 2 = .ok (.aload_n 0, 1) := by decide +kernel
theorem dL_lead_3 : decode cL_lead 3 = .ok (.iload_n 1, 1) := by decide +kernel
theorem dL_lead_4 : decode cL_lead 4 = .ok (.iload_n 2, 1) := by decide +kernel
theorem dL_lead_5 : decode cL_lead 5 = .ok (.invokevirtual 34, 3) := by decide +kernel
theorem dL_lead_8 : decode cL_lead 8 = .ok (.i2l, 1) := by decide +kernel
theorem dL_lead_9 : decode cL_lead 9 = .ok (.lastore, 1) := by decide +kernel
theorem dL_lead_10 : decode cL_lead 10 = .ok (.goto 11, 3) := by decide +kernel
theorem dL_lead_13 : decode cL_lead 13 = .ok (.astore 4, 2) := by decide +kernel
theorem dL_lead_15 : decode cL_lead 15 = .ok (.iconst 1, 1) := by decide +kernel
theorem dL_lead_16 : decode cL_lead 16 = .ok (.ireturn, 1) := by decide +kernel
theorem dL_lead_17 : decode cL_lead 17 = .ok (.astore 4, 2) := by decide +kernel
theorem dL_lead_19 : decode cL_lead 19 = .ok (.iconst 2, 1) := by decide +kernel
theorem dL_lead_20 : decode cL_lead 20 = .ok (.ireturn, 1) := by decide +kernel
theorem dL_lead_21 : decode cL_lead 21 = .ok (.iconst 0, 1) := by decide +kernel
theorem dL_lead_22 : decode cL_lead 22 = .ok (.ireturn, 1) := by decide +kernel
theorem dL_claim_0 : decode cL_claim 0 = .ok (.aload 5, 2) := by decide +kernel
theorem dL_claim_2 : decode cL_claim 2 = .ok (.iconst 0, 1) := by decide +kernel
theorem dL_claim_3 : decode cL_claim 3 = .ok (.aload_n 0, 1) := by decide +kernel
theorem dL_claim_4 : decode cL_claim 4 = .ok (.iload_n 1, 1) := by decide +kernel
theorem dL_claim_5 : decode cL_claim 5 = .ok (.iload_n 2, 1) := by decide +kernel
theorem dL_claim_6 : decode cL_claim 6 = .ok (.iload_n 3, 1) := by decide +kernel
theorem dL_claim_7 : decode cL_claim 7 = .ok (.iload 4, 2) := by decide +kernel
theorem dL_claim_9 : decode cL_claim 9 = .ok (.invokevirtual 38, 3) := by decide +kernel
theorem dL_claim_12 : decode cL_claim 12 = .ok (.i2l, 1) := by decide +kernel
theorem dL_claim_13 : decode cL_claim 13 = .ok (.lastore, 1) := by decide +kernel
theorem dL_claim_14 : decode cL_claim 14 = .ok (.goto 15, 3) := by decide +kernel
theorem dL_claim_17 : decode cL_claim 17 = .ok (.astore 6, 2) := by decide +kernel
theorem dL_claim_19 : decode cL_claim 19 = .ok (.iconst 1, 1) := by decide +kernel
theorem dL_claim_20 : decode cL_claim 20 = .ok (.ireturn, 1) := by decide +kernel
theorem dL_claim_21 : decode cL_claim 21 = .ok (.astore 6, 2) := by decide +kernel
theorem dL_claim_23 : decode cL_claim 23 = .ok (.iconst 2, 1) := by decide +kernel
theorem dL_claim_24 : decode cL_claim 24 = .ok (.ireturn, 1) := by decide +kernel
theorem dL_claim_25 : decode cL_claim 25 = .ok (.astore 6, 2) := by decide +kernel
theorem dL_claim_27 : decode cL_claim 27 = .ok (.iconst 3, 1) := by decide +kernel
theorem dL_claim_28 : decode cL_claim 28 = .ok (.ireturn, 1) := by decide +kernel
theorem dL_claim_29 : decode cL_claim 29 = .ok (.iconst 0, 1) := by decide +kernel
theorem dL_claim_30 : decode cL_claim 30 = .ok (.ireturn, 1) := by decide +kernel
theorem dL_sever_0 : decode cL_sever 0 = .ok (.aload_n 2, 1) := by decide +kernel
theorem dL_sever_1 : decode cL_sever 1 = .ok (.iconst 0, 1) := by decide +kernel
theorem dL_sever_2 : decode cL_sever 2 = .ok (.aload_n 0, 1) := by decide +kernel
theorem dL_sever_3 : decode cL_sever 3 = .ok (.iload_n 1, 1) := by decide +kernel
theorem dL_sever_4 : decode cL_sever 4 = .ok (.invokevirtual 42, 3) := by decide +kernel
theorem dL_sever_7 : decode cL_sever 7 = .ok (.i2l, 1) := by decide +kernel
theorem dL_sever_8 : decode cL_sever 8 = .ok (.lastore, 1) := by decide +kernel
theorem dL_sever_9 : decode cL_sever 9 = .ok (.goto 9, 3) := by decide +kernel
theorem dL_sever_12 : decode cL_sever 12 = .ok (.astore_n 3, 1) := by decide +kernel
theorem dL_sever_13 : decode cL_sever 13 = .ok (.iconst 1, 1) := by decide +kernel
theorem dL_sever_14 : decode cL_sever 14 = .ok (.ireturn, 1) := by decide +kernel
theorem dL_sever_15 : decode cL_sever 15 = .ok (.astore_n 3, 1) := by decide +kernel
theorem dL_sever_16 : decode cL_sever 16 = .ok (.iconst 2, 1) := by decide +kernel
theorem dL_sever_17 : decode cL_sever 17 = .ok (.ireturn, 1) := by decide +kernel
theorem dL_sever_18 : decode cL_sever 18 = .ok (.iconst 0, 1) := by decide +kernel
theorem dL_sever_19 : decode cL_sever 19 = .ok (.ireturn, 1) := by decide +kernel
theorem dL_serve_0 : decode cL_serve 0 = .ok (.aload_n 3, 1) := by decide +kernel
theorem dL_serve_1 : decode cL_serve 1 = .ok (.iconst 0, 1) := by decide +kernel
theorem dL_serve_2 : decode cL_serve 2 = .ok (.aload_n 0, 1) := by decide +kernel
theorem dL_serve_3 : decode cL_serve 3 = .ok (.iload_n 1, 1) := by decide +kernel
theorem dL_serve_4 : decode cL_serve 4 = .ok (.iload_n 2, 1) := by decide +kernel
theorem dL_serve_5 : decode cL_serve 5 = .ok (.invokevirtual 45, 3) := by decide +kernel
theorem dL_serve_8 : decode cL_serve 8 = .ok (.i2l, 1) := by decide +kernel
theorem dL_serve_9 : decode cL_serve 9 = .ok (.lastore, 1) := by decide +kernel
theorem dL_serve_10 : decode cL_serve 10 = .ok (.goto 11, 3) := by decide +kernel
theorem dL_serve_13 : decode cL_serve 13 = .ok (.astore 4, 2) := by decide +kernel
theorem dL_serve_15 : decode cL_serve 15 = .ok (.iconst 1, 1) := by decide +kernel
theorem dL_serve_16 : decode cL_serve 16 = .ok (.ireturn, 1) := by decide +kernel
theorem dL_serve_17 : decode cL_serve 17 = .ok (.astore 4, 2) := by decide +kernel
theorem dL_serve_19 : decode cL_serve 19 = .ok (.iconst 2, 1) := by decide +kernel
theorem dL_serve_20 : decode cL_serve 20 = .ok (.ireturn, 1) := by decide +kernel
theorem dL_serve_21 : decode cL_serve 21 = .ok (.iconst 0, 1) := by decide +kernel
theorem dL_serve_22 : decode cL_serve 22 = .ok (.ireturn, 1) := by decide +kernel
theorem dL_answer_0 : decode cL_answer 0 = .ok (.aload_n 2, 1) := by decide +kernel
theorem dL_answer_1 : decode cL_answer 1 = .ok (.iconst 0, 1) := by decide +kernel
theorem dL_answer_2 : decode cL_answer 2 = .ok (.aload_n 0, 1) := by decide +kernel
theorem dL_answer_3 : decode cL_answer 3 = .ok (.iload_n 1, 1) := by decide +kernel
theorem dL_answer_4 : decode cL_answer 4 = .ok (.invokevirtual 48, 3) := by decide +kernel
theorem dL_answer_7 : decode cL_answer 7 = .ok (.i2l, 1) := by decide +kernel
theorem dL_answer_8 : decode cL_answer 8 = .ok (.lastore, 1) := by decide +kernel
theorem dL_answer_9 : decode cL_answer 9 = .ok (.goto 9, 3) := by decide +kernel
theorem dL_answer_12 : decode cL_answer 12 = .ok (.astore_n 3, 1) := by decide +kernel
theorem dL_answer_13 : decode cL_answer 13 = .ok (.iconst 1, 1) := by decide +kernel
theorem dL_answer_14 : decode cL_answer 14 = .ok (.ireturn, 1) := by decide +kernel
theorem dL_answer_15 : decode cL_answer 15 = .ok (.astore_n 3, 1) := by decide +kernel
theorem dL_answer_16 : decode cL_answer 16 = .ok (.iconst 2, 1) := by decide +kernel
theorem dL_answer_17 : decode cL_answer 17 = .ok (.ireturn, 1) := by decide +kernel
theorem dL_answer_18 : decode cL_answer 18 = .ok (.iconst 0, 1) := by decide +kernel
theorem dL_answer_19 : decode cL_answer 19 = .ok (.ireturn, 1) := by decide +kernel
theorem dL_motion_0 : decode cL_motion 0 = .ok (.aload_n 2, 1) := by decide +kernel
theorem dL_motion_1 : decode cL_motion 1 = .ok (.iconst 0, 1) := by decide +kernel
theorem dL_motion_2 : decode cL_motion 2 = .ok (.aload_n 0, 1) := by decide +kernel
theorem dL_motion_3 : decode cL_motion 3 = .ok (.iload_n 1, 1) := by decide +kernel
theorem dL_motion_4 : decode cL_motion 4 = .ok (.invokevirtual 51, 3) := by decide +kernel
theorem dL_motion_7 : decode cL_motion 7 = .ok (.i2l, 1) := by decide +kernel
theorem dL_motion_8 : decode cL_motion 8 = .ok (.lastore, 1) := by decide +kernel
theorem dL_motion_9 : decode cL_motion 9 = .ok (.goto 9, 3) := by decide +kernel
theorem dL_motion_12 : decode cL_motion 12 = .ok (.astore_n 3, 1) := by decide +kernel
theorem dL_motion_13 : decode cL_motion 13 = .ok (.iconst 1, 1) := by decide +kernel
theorem dL_motion_14 : decode cL_motion 14 = .ok (.ireturn, 1) := by decide +kernel
theorem dL_motion_15 : decode cL_motion 15 = .ok (.astore_n 3, 1) := by decide +kernel
theorem dL_motion_16 : decode cL_motion 16 = .ok (.iconst 2, 1) := by decide +kernel
theorem dL_motion_17 : decode cL_motion 17 = .ok (.ireturn, 1) := by decide +kernel
theorem dL_motion_18 : decode cL_motion 18 = .ok (.iconst 0, 1) := by decide +kernel
theorem dL_motion_19 : decode cL_motion 19 = .ok (.ireturn, 1) := by decide +kernel
theorem dL_respond_0 : decode cL_respond 0 = .ok (.aload_n 2, 1) := by decide +kernel
theorem dL_respond_1 : decode cL_respond 1 = .ok (.iconst 0, 1) := by decide +kernel
theorem dL_respond_2 : decode cL_respond 2 = .ok (.aload_n 0, 1) := by decide +kernel
theorem dL_respond_3 : decode cL_respond 3 = .ok (.iload_n 1, 1) := by decide +kernel
theorem dL_respond_4 : decode cL_respond 4 = .ok (.invokevirtual 54, 3) := by decide +kernel
theorem dL_respond_7 : decode cL_respond 7 = .ok (.i2l, 1) := by decide +kernel
theorem dL_respond_8 : decode cL_respond 8 = .ok (.lastore, 1) := by decide +kernel
theorem dL_respond_9 : decode cL_respond 9 = .ok (.goto 9, 3) := by decide +kernel
theorem dL_respond_12 : decode cL_respond 12 = .ok (.astore_n 3, 1) := by decide +kernel
theorem dL_respond_13 : decode cL_respond 13 = .ok (.iconst 1, 1) := by decide +kernel
theorem dL_respond_14 : decode cL_respond 14 = .ok (.ireturn, 1) := by decide +kernel
theorem dL_respond_15 : decode cL_respond 15 = .ok (.astore_n 3, 1) := by decide +kernel
theorem dL_respond_16 : decode cL_respond 16 = .ok (.iconst 2, 1) := by decide +kernel
theorem dL_respond_17 : decode cL_respond 17 = .ok (.ireturn, 1) := by decide +kernel
theorem dL_respond_18 : decode cL_respond 18 = .ok (.iconst 0, 1) := by decide +kernel
theorem dL_respond_19 : decode cL_respond 19 = .ok (.ireturn, 1) := by decide +kernel
theorem dL_ruling_0 : decode cL_ruling 0 = .ok (.aload_n 3, 1) := by decide +kernel
theorem dL_ruling_1 : decode cL_ruling 1 = .ok (.iconst 0, 1) := by decide +kernel
theorem dL_ruling_2 : decode cL_ruling 2 = .ok (.aload_n 0, 1) := by decide +kernel
theorem dL_ruling_3 : decode cL_ruling 3 = .ok (.iload_n 1, 1) := by decide +kernel
theorem dL_ruling_4 : decode cL_ruling 4 = .ok (.iload_n 2, 1) := by decide +kernel
theorem dL_ruling_5 : decode cL_ruling 5 = .ok (.invokevirtual 57, 3) := by decide +kernel
theorem dL_ruling_8 : decode cL_ruling 8 = .ok (.i2l, 1) := by decide +kernel
theorem dL_ruling_9 : decode cL_ruling 9 = .ok (.lastore, 1) := by decide +kernel
theorem dL_ruling_10 : decode cL_ruling 10 = .ok (.goto 15, 3) := by decide +kernel
theorem dL_ruling_13 : decode cL_ruling 13 = .ok (.astore 4, 2) := by decide +kernel
theorem dL_ruling_15 : decode cL_ruling 15 = .ok (.iconst 1, 1) := by decide +kernel
theorem dL_ruling_16 : decode cL_ruling 16 = .ok (.ireturn, 1) := by decide +kernel
theorem dL_ruling_17 : decode cL_ruling 17 = .ok (.astore 4, 2) := by decide +kernel
theorem dL_ruling_19 : decode cL_ruling 19 = .ok (.iconst 2, 1) := by decide +kernel
theorem dL_ruling_20 : decode cL_ruling 20 = .ok (.ireturn, 1) := by decide +kernel
theorem dL_ruling_21 : decode cL_ruling 21 = .ok (.astore 4, 2) := by decide +kernel
theorem dL_ruling_23 : decode cL_ruling 23 = .ok (.iconst 3, 1) := by decide +kernel
theorem dL_ruling_24 : decode cL_ruling 24 = .ok (.ireturn, 1) := by decide +kernel
theorem dL_ruling_25 : decode cL_ruling 25 = .ok (.iconst 0, 1) := by decide +kernel
theorem dL_ruling_26 : decode cL_ruling 26 = .ok (.ireturn, 1) := by decide +kernel
theorem dL_judge_0 : decode cL_judge 0 = .ok (.aload_n 3, 1) := by decide +kernel
theorem dL_judge_1 : decode cL_judge 1 = .ok (.iconst 0, 1) := by decide +kernel
theorem dL_judge_2 : decode cL_judge 2 = .ok (.aload_n 0, 1) := by decide +kernel
theorem dL_judge_3 : decode cL_judge 3 = .ok (.iload_n 1, 1) := by decide +kernel
theorem dL_judge_4 : decode cL_judge 4 = .ok (.iload_n 2, 1) := by decide +kernel
theorem dL_judge_5 : decode cL_judge 5 = .ok (.invokevirtual 60, 3) := by decide +kernel
theorem dL_judge_8 : decode cL_judge 8 = .ok (.i2l, 1) := by decide +kernel
theorem dL_judge_9 : decode cL_judge 9 = .ok (.lastore, 1) := by decide +kernel
theorem dL_judge_10 : decode cL_judge 10 = .ok (.goto 15, 3) := by decide +kernel
theorem dL_judge_13 : decode cL_judge 13 = .ok (.astore 4, 2) := by decide +kernel
theorem dL_judge_15 : decode cL_judge 15 = .ok (.iconst 1, 1) := by decide +kernel
theorem dL_judge_16 : decode cL_judge 16 = .ok (.ireturn, 1) := by decide +kernel
theorem dL_judge_17 : decode cL_judge 17 = .ok (.astore 4, 2) := by decide +kernel
theorem dL_judge_19 : decode cL_judge 19 = .ok (.iconst 2, 1) := by decide +kernel
theorem dL_judge_20 : decode cL_judge 20 = .ok (.ireturn, 1) := by decide +kernel
theorem dL_judge_21 : decode cL_judge 21 = .ok (.astore 4, 2) := by decide +kernel
theorem dL_judge_23 : decode cL_judge 23 = .ok (.iconst 3, 1) := by decide +kernel
theorem dL_judge_24 : decode cL_judge 24 = .ok (.ireturn, 1) := by decide +kernel
theorem dL_judge_25 : decode cL_judge 25 = .ok (.iconst 0, 1) := by decide +kernel
theorem dL_judge_26 : decode cL_judge 26 = .ok (.ireturn, 1) := by decide +kernel
theorem dL_vacate_0 : decode cL_vacate 0 = .ok (.aload_n 2, 1) := by decide +kernel
theorem dL_vacate_1 : decode cL_vacate 1 = .ok (.iconst 0, 1) := by decide +kernel
theorem dL_vacate_2 : decode cL_vacate 2 = .ok (.aload_n 0, 1) := by decide +kernel
theorem dL_vacate_3 : decode cL_vacate 3 = .ok (.iload_n 1, 1) := by decide +kernel
theorem dL_vacate_4 : decode cL_vacate 4 = .ok (.invokevirtual 63, 3) := by decide +kernel
theorem dL_vacate_7 : decode cL_vacate 7 = .ok (.i2l, 1) := by decide +kernel
theorem dL_vacate_8 : decode cL_vacate 8 = .ok (.lastore, 1) := by decide +kernel
theorem dL_vacate_9 : decode cL_vacate 9 = .ok (.goto 9, 3) := by decide +kernel
theorem dL_vacate_12 : decode cL_vacate 12 = .ok (.astore_n 3, 1) := by decide +kernel
theorem dL_vacate_13 : decode cL_vacate 13 = .ok (.iconst 1, 1) := by decide +kernel
theorem dL_vacate_14 : decode cL_vacate 14 = .ok (.ireturn, 1) := by decide +kernel
theorem dL_vacate_15 : decode cL_vacate 15 = .ok (.astore_n 3, 1) := by decide +kernel
theorem dL_vacate_16 : decode cL_vacate 16 = .ok (.iconst 2, 1) := by decide +kernel
theorem dL_vacate_17 : decode cL_vacate 17 = .ok (.ireturn, 1) := by decide +kernel
theorem dL_vacate_18 : decode cL_vacate 18 = .ok (.iconst 0, 1) := by decide +kernel
theorem dL_vacate_19 : decode cL_vacate 19 = .ok (.ireturn, 1) := by decide +kernel
theorem dL_appeal_0 : decode cL_appeal 0 = .ok (.aload_n 2, 1) := by decide +kernel
theorem dL_appeal_1 : decode cL_appeal 1 = .ok (.iconst 0, 1) := by decide +kernel
theorem dL_appeal_2 : decode cL_appeal 2 = .ok (.aload_n 0, 1) := by decide +kernel
theorem dL_appeal_3 : decode cL_appeal 3 = .ok (.iload_n 1, 1) := by decide +kernel
theorem dL_appeal_4 : decode cL_appeal 4 = .ok (.invokevirtual 66, 3) := by decide +kernel
theorem dL_appeal_7 : decode cL_appeal 7 = .ok (.i2l, 1) := by decide +kernel
theorem dL_appeal_8 : decode cL_appeal 8 = .ok (.lastore, 1) := by decide +kernel
theorem dL_appeal_9 : decode cL_appeal 9 = .ok (.goto 9, 3) := by decide +kernel
theorem dL_appeal_12 : decode cL_appeal 12 = .ok (.astore_n 3, 1) := by decide +kernel
theorem dL_appeal_13 : decode cL_appeal 13 = .ok (.iconst 1, 1) := by decide +kernel
theorem dL_appeal_14 : decode cL_appeal 14 = .ok (.ireturn, 1) := by decide +kernel
theorem dL_appeal_15 : decode cL_appeal 15 = .ok (.astore_n 3, 1) := by decide +kernel
theorem dL_appeal_16 : decode cL_appeal 16 = .ok (.iconst 2, 1) := by decide +kernel
theorem dL_appeal_17 : decode cL_appeal 17 = .ok (.ireturn, 1) := by decide +kernel
theorem dL_appeal_18 : decode cL_appeal 18 = .ok (.iconst 0, 1) := by decide +kernel
theorem dL_appeal_19 : decode cL_appeal 19 = .ok (.ireturn, 1) := by decide +kernel
theorem dL_decide_0 : decode cL_decide 0 = .ok (.aload 4, 2) := by decide +kernel
theorem dL_decide_2 : decode cL_decide 2 = .ok (.iconst 0, 1) := by decide +kernel
theorem dL_decide_3 : decode cL_decide 3 = .ok (.aload_n 0, 1) := by decide +kernel
theorem dL_decide_4 : decode cL_decide 4 = .ok (.iload_n 1, 1) := by decide +kernel
theorem dL_decide_5 : decode cL_decide 5 = .ok (.iload_n 2, 1) := by decide +kernel
theorem dL_decide_6 : decode cL_decide 6 = .ok (.iload_n 3, 1) := by decide +kernel
theorem dL_decide_7 : decode cL_decide 7 = .ok (.invokevirtual 69, 3) := by decide +kernel
theorem dL_decide_10 : decode cL_decide 10 = .ok (.i2l, 1) := by decide +kernel
theorem dL_decide_11 : decode cL_decide 11 = .ok (.lastore, 1) := by decide +kernel
theorem dL_decide_12 : decode cL_decide 12 = .ok (.goto 15, 3) := by decide +kernel
theorem dL_decide_15 : decode cL_decide 15 = .ok (.astore 5, 2) := by decide +kernel
theorem dL_decide_17 : decode cL_decide 17 = .ok (.iconst 1, 1) := by decide +kernel
theorem dL_decide_18 : decode cL_decide 18 = .ok (.ireturn, 1) := by decide +kernel
theorem dL_decide_19 : decode cL_decide 19 = .ok (.astore 5, 2) := by decide +kernel
theorem dL_decide_21 : decode cL_decide 21 = .ok (.iconst 2, 1) := by decide +kernel
theorem dL_decide_22 : decode cL_decide 22 = .ok (.ireturn, 1) := by decide +kernel
theorem dL_decide_23 : decode cL_decide 23 = .ok (.astore 5, 2) := by decide +kernel
theorem dL_decide_25 : decode cL_decide 25 = .ok (.iconst 3, 1) := by decide +kernel
theorem dL_decide_26 : decode cL_decide 26 = .ok (.ireturn, 1) := by decide +kernel
theorem dL_decide_27 : decode cL_decide 27 = .ok (.iconst 0, 1) := by decide +kernel
theorem dL_decide_28 : decode cL_decide 28 = .ok (.ireturn, 1) := by decide +kernel
theorem dL_settle_0 : decode cL_settle 0 = .ok (.aload_n 2, 1) := by decide +kernel
theorem dL_settle_1 : decode cL_settle 1 = .ok (.iconst 0, 1) := by decide +kernel
theorem dL_settle_2 : decode cL_settle 2 = .ok (.aload_n 0, 1) := by decide +kernel
theorem dL_settle_3 : decode cL_settle 3 = .ok (.iload_n 1, 1) := by decide +kernel
theorem dL_settle_4 : decode cL_settle 4 = .ok (.invokevirtual 72, 3) := by decide +kernel
theorem dL_settle_7 : decode cL_settle 7 = .ok (.i2l, 1) := by decide +kernel
theorem dL_settle_8 : decode cL_settle 8 = .ok (.lastore, 1) := by decide +kernel
theorem dL_settle_9 : decode cL_settle 9 = .ok (.goto 9, 3) := by decide +kernel
theorem dL_settle_12 : decode cL_settle 12 = .ok (.astore_n 3, 1) := by decide +kernel
theorem dL_settle_13 : decode cL_settle 13 = .ok (.iconst 1, 1) := by decide +kernel
theorem dL_settle_14 : decode cL_settle 14 = .ok (.ireturn, 1) := by decide +kernel
theorem dL_settle_15 : decode cL_settle 15 = .ok (.astore_n 3, 1) := by decide +kernel
theorem dL_settle_16 : decode cL_settle 16 = .ok (.iconst 2, 1) := by decide +kernel
theorem dL_settle_17 : decode cL_settle 17 = .ok (.ireturn, 1) := by decide +kernel
theorem dL_settle_18 : decode cL_settle 18 = .ok (.iconst 0, 1) := by decide +kernel
theorem dL_settle_19 : decode cL_settle 19 = .ok (.ireturn, 1) := by decide +kernel
theorem dL_pay_0 : decode cL_pay 0 = .ok (.aload_n 3, 1) := by decide +kernel
theorem dL_pay_1 : decode cL_pay 1 = .ok (.iconst 0, 1) := by decide +kernel
theorem dL_pay_2 : decode cL_pay 2 = .ok (.aload_n 0, 1) := by decide +kernel
theorem dL_pay_3 : decode cL_pay 3 = .ok (.iload_n 1, 1) := by decide +kernel
theorem dL_pay_4 : decode cL_pay 4 = .ok (.iload_n 2, 1) := by decide +kernel
theorem dL_pay_5 : decode cL_pay 5 = .ok (.invokevirtual 75, 3) := by decide +kernel
theorem dL_pay_8 : decode cL_pay 8 = .ok (.i2l, 1) := by decide +kernel
theorem dL_pay_9 : decode cL_pay 9 = .ok (.lastore, 1) := by decide +kernel
theorem dL_pay_10 : decode cL_pay 10 = .ok (.goto 15, 3) := by decide +kernel
theorem dL_pay_13 : decode cL_pay 13 = .ok (.astore 4, 2) := by decide +kernel
theorem dL_pay_15 : decode cL_pay 15 = .ok (.iconst 1, 1) := by decide +kernel
theorem dL_pay_16 : decode cL_pay 16 = .ok (.ireturn, 1) := by decide +kernel
theorem dL_pay_17 : decode cL_pay 17 = .ok (.astore 4, 2) := by decide +kernel
theorem dL_pay_19 : decode cL_pay 19 = .ok (.iconst 2, 1) := by decide +kernel
theorem dL_pay_20 : decode cL_pay 20 = .ok (.ireturn, 1) := by decide +kernel
theorem dL_pay_21 : decode cL_pay 21 = .ok (.astore 4, 2) := by decide +kernel
theorem dL_pay_23 : decode cL_pay 23 = .ok (.iconst 3, 1) := by decide +kernel
theorem dL_pay_24 : decode cL_pay 24 = .ok (.ireturn, 1) := by decide +kernel
theorem dL_pay_25 : decode cL_pay 25 = .ok (.iconst 0, 1) := by decide +kernel
theorem dL_pay_26 : decode cL_pay 26 = .ok (.ireturn, 1) := by decide +kernel
theorem dL_stay_0 : decode cL_stay 0 = .ok (.aload_n 3, 1) := by decide +kernel
theorem dL_stay_1 : decode cL_stay 1 = .ok (.iconst 0, 1) := by decide +kernel
theorem dL_stay_2 : decode cL_stay 2 = .ok (.aload_n 0, 1) := by decide +kernel
theorem dL_stay_3 : decode cL_stay 3 = .ok (.iload_n 1, 1) := by decide +kernel
theorem dL_stay_4 : decode cL_stay 4 = .ok (.iload_n 2, 1) := by decide +kernel
theorem dL_stay_5 : decode cL_stay 5 = .ok (.invokevirtual 78, 3) := by decide +kernel
theorem dL_stay_8 : decode cL_stay 8 = .ok (.i2l, 1) := by decide +kernel
theorem dL_stay_9 : decode cL_stay 9 = .ok (.lastore, 1) := by decide +kernel
theorem dL_stay_10 : decode cL_stay 10 = .ok (.goto 11, 3) := by decide +kernel
theorem dL_stay_13 : decode cL_stay 13 = .ok (.astore 4, 2) := by decide +kernel
theorem dL_stay_15 : decode cL_stay 15 = .ok (.iconst 1, 1) := by decide +kernel
theorem dL_stay_16 : decode cL_stay 16 = .ok (.ireturn, 1) := by decide +kernel
theorem dL_stay_17 : decode cL_stay 17 = .ok (.astore 4, 2) := by decide +kernel
theorem dL_stay_19 : decode cL_stay 19 = .ok (.iconst 2, 1) := by decide +kernel
theorem dL_stay_20 : decode cL_stay 20 = .ok (.ireturn, 1) := by decide +kernel
theorem dL_stay_21 : decode cL_stay 21 = .ok (.iconst 0, 1) := by decide +kernel
theorem dL_stay_22 : decode cL_stay 22 = .ok (.ireturn, 1) := by decide +kernel
theorem dL_defect_0 : decode cL_defect 0 = .ok (.aload_n 2, 1) := by decide +kernel
theorem dL_defect_1 : decode cL_defect 1 = .ok (.iconst 0, 1) := by decide +kernel
theorem dL_defect_2 : decode cL_defect 2 = .ok (.aload_n 0, 1) := by decide +kernel
theorem dL_defect_3 : decode cL_defect 3 = .ok (.iload_n 1, 1) := by decide +kernel
theorem dL_defect_4 : decode cL_defect 4 = .ok (.invokevirtual 82, 3) := by decide +kernel
theorem dL_defect_7 : decode cL_defect 7 = .ok (.i2l, 1) := by decide +kernel
theorem dL_defect_8 : decode cL_defect 8 = .ok (.lastore, 1) := by decide +kernel
theorem dL_defect_9 : decode cL_defect 9 = .ok (.goto 9, 3) := by decide +kernel
theorem dL_defect_12 : decode cL_defect 12 = .ok (.astore_n 3, 1) := by decide +kernel
theorem dL_defect_13 : decode cL_defect 13 = .ok (.iconst 1, 1) := by decide +kernel
theorem dL_defect_14 : decode cL_defect 14 = .ok (.ireturn, 1) := by decide +kernel
theorem dL_defect_15 : decode cL_defect 15 = .ok (.astore_n 3, 1) := by decide +kernel
theorem dL_defect_16 : decode cL_defect 16 = .ok (.iconst 2, 1) := by decide +kernel
theorem dL_defect_17 : decode cL_defect 17 = .ok (.ireturn, 1) := by decide +kernel
theorem dL_defect_18 : decode cL_defect 18 = .ok (.iconst 0, 1) := by decide +kernel
theorem dL_defect_19 : decode cL_defect 19 = .ok (.ireturn, 1) := by decide +kernel
theorem dL_cure_0 : decode cL_cure 0 = .ok (.aload_n 2, 1) := by decide +kernel
theorem dL_cure_1 : decode cL_cure 1 = .ok (.iconst 0, 1) := by decide +kernel
theorem dL_cure_2 : decode cL_cure 2 = .ok (.aload_n 0, 1) := by decide +kernel
theorem dL_cure_3 : decode cL_cure 3 = .ok (.iload_n 1, 1) := by decide +kernel
theorem dL_cure_4 : decode cL_cure 4 = .ok (.invokevirtual 85, 3) := by decide +kernel
theorem dL_cure_7 : decode cL_cure 7 = .ok (.ifCond .eq 7, 3) := by decide +kernel
theorem dL_cure_10 : decode cL_cure 10 = .ok (.lconst 1, 1) := by decide +kernel
theorem dL_cure_11 : decode cL_cure 11 = .ok (.goto 4, 3) := by decide +kernel
theorem dL_cure_14 : decode cL_cure 14 = .ok (.lconst 0, 1) := by decide +kernel
theorem dL_cure_15 : decode cL_cure 15 = .ok (.lastore, 1) := by decide +kernel
theorem dL_cure_16 : decode cL_cure 16 = .ok (.goto 9, 3) := by decide +kernel
theorem dL_cure_19 : decode cL_cure 19 = .ok (.astore_n 3, 1) := by decide +kernel
theorem dL_cure_20 : decode cL_cure 20 = .ok (.iconst 1, 1) := by decide +kernel
theorem dL_cure_21 : decode cL_cure 21 = .ok (.ireturn, 1) := by decide +kernel
theorem dL_cure_22 : decode cL_cure 22 = .ok (.astore_n 3, 1) := by decide +kernel
theorem dL_cure_23 : decode cL_cure 23 = .ok (.iconst 2, 1) := by decide +kernel
theorem dL_cure_24 : decode cL_cure 24 = .ok (.ireturn, 1) := by decide +kernel
theorem dL_cure_25 : decode cL_cure 25 = .ok (.iconst 0, 1) := by decide +kernel
theorem dL_cure_26 : decode cL_cure 26 = .ok (.ireturn, 1) := by decide +kernel
theorem dL_extend_0 : decode cL_extend 0 = .ok (.aload 4, 2) := by decide +kernel
theorem dL_extend_2 : decode cL_extend 2 = .ok (.iconst 0, 1) := by decide +kernel
theorem dL_extend_3 : decode cL_extend 3 = .ok (.aload_n 0, 1) := by decide +kernel
theorem dL_extend_4 : decode cL_extend 4 = .ok (.iload_n 1, 1) := by decide +kernel
theorem dL_extend_5 : decode cL_extend 5 = .ok (.iload_n 2, 1) := by decide +kernel
theorem dL_extend_6 : decode cL_extend 6 = .ok (.iload_n 3, 1) := by decide +kernel
theorem dL_extend_7 : decode cL_extend 7 = .ok (.invokevirtual 88, 3) := by decide +kernel
theorem dL_extend_10 : decode cL_extend 10 = .ok (.i2l, 1) := by decide +kernel
theorem dL_extend_11 : decode cL_extend 11 = .ok (.lastore, 1) := by decide +kernel
theorem dL_extend_12 : decode cL_extend 12 = .ok (.goto 15, 3) := by decide +kernel
theorem dL_extend_15 : decode cL_extend 15 = .ok (.astore 5, 2) := by decide +kernel
theorem dL_extend_17 : decode cL_extend 17 = .ok (.iconst 1, 1) := by decide +kernel
theorem dL_extend_18 : decode cL_extend 18 = .ok (.ireturn, 1) := by decide +kernel
theorem dL_extend_19 : decode cL_extend 19 = .ok (.astore 5, 2) := by decide +kernel
theorem dL_extend_21 : decode cL_extend 21 = .ok (.iconst 2, 1) := by decide +kernel
theorem dL_extend_22 : decode cL_extend 22 = .ok (.ireturn, 1) := by decide +kernel
theorem dL_extend_23 : decode cL_extend 23 = .ok (.astore 5, 2) := by decide +kernel
theorem dL_extend_25 : decode cL_extend 25 = .ok (.iconst 3, 1) := by decide +kernel
theorem dL_extend_26 : decode cL_extend 26 = .ok (.ireturn, 1) := by decide +kernel
theorem dL_extend_27 : decode cL_extend 27 = .ok (.iconst 0, 1) := by decide +kernel
theorem dL_extend_28 : decode cL_extend 28 = .ok (.ireturn, 1) := by decide +kernel
theorem dL_hearing_0 : decode cL_hearing 0 = .ok (.aload 4, 2) := by decide +kernel
theorem dL_hearing_2 : decode cL_hearing 2 = .ok (.iconst 0, 1) := by decide +kernel
theorem dL_hearing_3 : decode cL_hearing 3 = .ok (.aload_n 0, 1) := by decide +kernel
theorem dL_hearing_4 : decode cL_hearing 4 = .ok (.iload_n 1, 1) := by decide +kernel
theorem dL_hearing_5 : decode cL_hearing 5 = .ok (.iload_n 2, 1) := by decide +kernel
theorem dL_hearing_6 : decode cL_hearing 6 = .ok (.iload_n 3, 1) := by decide +kernel
theorem dL_hearing_7 : decode cL_hearing 7 = .ok (.invokevirtual 91, 3) := by decide +kernel
theorem dL_hearing_10 : decode cL_hearing 10 = .ok (.i2l, 1) := by decide +kernel
theorem dL_hearing_11 : decode cL_hearing 11 = .ok (.lastore, 1) := by decide +kernel
theorem dL_hearing_12 : decode cL_hearing 12 = .ok (.goto 15, 3) := by decide +kernel
theorem dL_hearing_15 : decode cL_hearing 15 = .ok (.astore 5, 2) := by decide +kernel
theorem dL_hearing_17 : decode cL_hearing 17 = .ok (.iconst 1, 1) := by decide +kernel
theorem dL_hearing_18 : decode cL_hearing 18 = .ok (.ireturn, 1) := by decide +kernel
theorem dL_hearing_19 : decode cL_hearing 19 = .ok (.astore 5, 2) := by decide +kernel
theorem dL_hearing_21 : decode cL_hearing 21 = .ok (.iconst 2, 1) := by decide +kernel
theorem dL_hearing_22 : decode cL_hearing 22 = .ok (.ireturn, 1) := by decide +kernel
theorem dL_hearing_23 : decode cL_hearing 23 = .ok (.astore 5, 2) := by decide +kernel
theorem dL_hearing_25 : decode cL_hearing 25 = .ok (.iconst 3, 1) := by decide +kernel
theorem dL_hearing_26 : decode cL_hearing 26 = .ok (.ireturn, 1) := by decide +kernel
theorem dL_hearing_27 : decode cL_hearing 27 = .ok (.iconst 0, 1) := by decide +kernel
theorem dL_hearing_28 : decode cL_hearing 28 = .ok (.ireturn, 1) := by decide +kernel
theorem dL_continueHearing_0 : decode cL_continueHearing 0 = .ok (.aload_n 2, 1) := by decide +kernel
theorem dL_continueHearing_1 : decode cL_continueHearing 1 = .ok (.iconst 0, 1) := by decide +kernel
theorem dL_continueHearing_2 : decode cL_continueHearing 2 = .ok (.aload_n 0, 1) := by decide +kernel
theorem dL_continueHearing_3 : decode cL_continueHearing 3 = .ok (.iload_n 1, 1) := by decide +kernel
theorem dL_continueHearing_4 : decode cL_continueHearing 4 = .ok (.invokevirtual 94, 3) := by decide +kernel
theorem dL_continueHearing_7 : decode cL_continueHearing 7 = .ok (.i2l, 1) := by decide +kernel
theorem dL_continueHearing_8 : decode cL_continueHearing 8 = .ok (.lastore, 1) := by decide +kernel
theorem dL_continueHearing_9 : decode cL_continueHearing 9 = .ok (.goto 9, 3) := by decide +kernel
theorem dL_continueHearing_12 : decode cL_continueHearing 12 = .ok (.astore_n 3, 1) := by decide +kernel
theorem dL_continueHearing_13 : decode cL_continueHearing 13 = .ok (.iconst 1, 1) := by decide +kernel
theorem dL_continueHearing_14 : decode cL_continueHearing 14 = .ok (.ireturn, 1) := by decide +kernel
theorem dL_continueHearing_15 : decode cL_continueHearing 15 = .ok (.astore_n 3, 1) := by decide +kernel
theorem dL_continueHearing_16 : decode cL_continueHearing 16 = .ok (.iconst 2, 1) := by decide +kernel
theorem dL_continueHearing_17 : decode cL_continueHearing 17 = .ok (.ireturn, 1) := by decide +kernel
theorem dL_continueHearing_18 : decode cL_continueHearing 18 = .ok (.iconst 0, 1) := by decide +kernel
theorem dL_continueHearing_19 : decode cL_continueHearing 19 = .ok (.ireturn, 1) := by decide +kernel
theorem dL_strike_0 : decode cL_strike 0 = .ok (.aload 4, 2) := by decide +kernel
theorem dL_strike_2 : decode cL_strike 2 = .ok (.iconst 0, 1) := by decide +kernel
theorem dL_strike_3 : decode cL_strike 3 = .ok (.aload_n 0, 1) := by decide +kernel
theorem dL_strike_4 : decode cL_strike 4 = .ok (.iload_n 1, 1) := by decide +kernel
theorem dL_strike_5 : decode cL_strike 5 = .ok (.iload_n 2, 1) := by decide +kernel
theorem dL_strike_6 : decode cL_strike 6 = .ok (.iload_n 3, 1) := by decide +kernel
theorem dL_strike_7 : decode cL_strike 7 = .ok (.invokevirtual 97, 3) := by decide +kernel
theorem dL_strike_10 : decode cL_strike 10 = .ok (.i2l, 1) := by decide +kernel
theorem dL_strike_11 : decode cL_strike 11 = .ok (.lastore, 1) := by decide +kernel
theorem dL_strike_12 : decode cL_strike 12 = .ok (.goto 11, 3) := by decide +kernel
theorem dL_strike_15 : decode cL_strike 15 = .ok (.astore 5, 2) := by decide +kernel
theorem dL_strike_17 : decode cL_strike 17 = .ok (.iconst 1, 1) := by decide +kernel
theorem dL_strike_18 : decode cL_strike 18 = .ok (.ireturn, 1) := by decide +kernel
theorem dL_strike_19 : decode cL_strike 19 = .ok (.astore 5, 2) := by decide +kernel
theorem dL_strike_21 : decode cL_strike 21 = .ok (.iconst 2, 1) := by decide +kernel
theorem dL_strike_22 : decode cL_strike 22 = .ok (.ireturn, 1) := by decide +kernel
theorem dL_strike_23 : decode cL_strike 23 = .ok (.iconst 0, 1) := by decide +kernel
theorem dL_strike_24 : decode cL_strike 24 = .ok (.ireturn, 1) := by decide +kernel
theorem dL_dismiss_0 : decode cL_dismiss 0 = .ok (.aload_n 3, 1) := by decide +kernel
theorem dL_dismiss_1 : decode cL_dismiss 1 = .ok (.iconst 0, 1) := by decide +kernel
theorem dL_dismiss_2 : decode cL_dismiss 2 = .ok (.aload_n 0, 1) := by decide +kernel
theorem dL_dismiss_3 : decode cL_dismiss 3 = .ok (.iload_n 1, 1) := by decide +kernel
theorem dL_dismiss_4 : decode cL_dismiss 4 = .ok (.iload_n 2, 1) := by decide +kernel
theorem dL_dismiss_5 : decode cL_dismiss 5 = .ok (.invokevirtual 100, 3) := by decide +kernel
theorem dL_dismiss_8 : decode cL_dismiss 8 = .ok (.i2l, 1) := by decide +kernel
theorem dL_dismiss_9 : decode cL_dismiss 9 = .ok (.lastore, 1) := by decide +kernel
theorem dL_dismiss_10 : decode cL_dismiss 10 = .ok (.goto 11, 3) := by decide +kernel
theorem dL_dismiss_13 : decode cL_dismiss 13 = .ok (.astore 4, 2) := by decide +kernel
theorem dL_dismiss_15 : decode cL_dismiss 15 = .ok (.iconst 1, 1) := by decide +kernel
theorem dL_dismiss_16 : decode cL_dismiss 16 = .ok (.ireturn, 1) := by decide +kernel
theorem dL_dismiss_17 : decode cL_dismiss 17 = .ok (.astore 4, 2) := by decide +kernel
theorem dL_dismiss_19 : decode cL_dismiss 19 = .ok (.iconst 2, 1) := by decide +kernel
theorem dL_dismiss_20 : decode cL_dismiss 20 = .ok (.ireturn, 1) := by decide +kernel
theorem dL_dismiss_21 : decode cL_dismiss 21 = .ok (.iconst 0, 1) := by decide +kernel
theorem dL_dismiss_22 : decode cL_dismiss 22 = .ok (.ireturn, 1) := by decide +kernel
theorem dL_seat_0 : decode cL_seat 0 = .ok (.aload_n 3, 1) := by decide +kernel
theorem dL_seat_1 : decode cL_seat 1 = .ok (.iconst 0, 1) := by decide +kernel
theorem dL_seat_2 : decode cL_seat 2 = .ok (.aload_n 0, 1) := by decide +kernel
theorem dL_seat_3 : decode cL_seat 3 = .ok (.iload_n 1, 1) := by decide +kernel
theorem dL_seat_4 : decode cL_seat 4 = .ok (.iload_n 2, 1) := by decide +kernel
theorem dL_seat_5 : decode cL_seat 5 = .ok (.invokevirtual 103, 3) := by decide +kernel
theorem dL_seat_8 : decode cL_seat 8 = .ok (.i2l, 1) := by decide +kernel
theorem dL_seat_9 : decode cL_seat 9 = .ok (.lastore, 1) := by decide +kernel
theorem dL_seat_10 : decode cL_seat 10 = .ok (.goto 7, 3) := by decide +kernel
theorem dL_seat_13 : decode cL_seat 13 = .ok (.astore 4, 2) := by decide +kernel
theorem dL_seat_15 : decode cL_seat 15 = .ok (.iconst 1, 1) := by decide +kernel
theorem dL_seat_16 : decode cL_seat 16 = .ok (.ireturn, 1) := by decide +kernel
theorem dL_seat_17 : decode cL_seat 17 = .ok (.iconst 0, 1) := by decide +kernel
theorem dL_seat_18 : decode cL_seat 18 = .ok (.ireturn, 1) := by decide +kernel
theorem dL_exhibit_0 : decode cL_exhibit 0 = .ok (.aload_n 3, 1) := by decide +kernel
theorem dL_exhibit_1 : decode cL_exhibit 1 = .ok (.iconst 0, 1) := by decide +kernel
theorem dL_exhibit_2 : decode cL_exhibit 2 = .ok (.aload_n 0, 1) := by decide +kernel
theorem dL_exhibit_3 : decode cL_exhibit 3 = .ok (.iload_n 1, 1) := by decide +kernel
theorem dL_exhibit_4 : decode cL_exhibit 4 = .ok (.iload_n 2, 1) := by decide +kernel
theorem dL_exhibit_5 : decode cL_exhibit 5 = .ok (.invokevirtual 106, 3) := by decide +kernel
theorem dL_exhibit_8 : decode cL_exhibit 8 = .ok (.i2l, 1) := by decide +kernel
theorem dL_exhibit_9 : decode cL_exhibit 9 = .ok (.lastore, 1) := by decide +kernel
theorem dL_exhibit_10 : decode cL_exhibit 10 = .ok (.goto 11, 3) := by decide +kernel
theorem dL_exhibit_13 : decode cL_exhibit 13 = .ok (.astore 4, 2) := by decide +kernel
theorem dL_exhibit_15 : decode cL_exhibit 15 = .ok (.iconst 1, 1) := by decide +kernel
theorem dL_exhibit_16 : decode cL_exhibit 16 = .ok (.ireturn, 1) := by decide +kernel
theorem dL_exhibit_17 : decode cL_exhibit 17 = .ok (.astore 4, 2) := by decide +kernel
theorem dL_exhibit_19 : decode cL_exhibit 19 = .ok (.iconst 2, 1) := by decide +kernel
theorem dL_exhibit_20 : decode cL_exhibit 20 = .ok (.ireturn, 1) := by decide +kernel
theorem dL_exhibit_21 : decode cL_exhibit 21 = .ok (.iconst 0, 1) := by decide +kernel
theorem dL_exhibit_22 : decode cL_exhibit 22 = .ok (.ireturn, 1) := by decide +kernel
theorem dL_hand_0 : decode cL_hand 0 = .ok (.aload 4, 2) := by decide +kernel
theorem dL_hand_2 : decode cL_hand 2 = .ok (.iconst 0, 1) := by decide +kernel
theorem dL_hand_3 : decode cL_hand 3 = .ok (.aload_n 0, 1) := by decide +kernel
theorem dL_hand_4 : decode cL_hand 4 = .ok (.iload_n 1, 1) := by decide +kernel
theorem dL_hand_5 : decode cL_hand 5 = .ok (.iload_n 2, 1) := by decide +kernel
theorem dL_hand_6 : decode cL_hand 6 = .ok (.iload_n 3, 1) := by decide +kernel
theorem dL_hand_7 : decode cL_hand 7 = .ok (.invokevirtual 109, 3) := by decide +kernel
theorem dL_hand_10 : decode cL_hand 10 = .ok (.ifCond .eq 7, 3) := by decide +kernel
theorem dL_hand_13 : decode cL_hand 13 = .ok (.lconst 1, 1) := by decide +kernel
theorem dL_hand_14 : decode cL_hand 14 = .ok (.goto 4, 3) := by decide +kernel
theorem dL_hand_17 : decode cL_hand 17 = .ok (.lconst 0, 1) := by decide +kernel
theorem dL_hand_18 : decode cL_hand 18 = .ok (.lastore, 1) := by decide +kernel
theorem dL_hand_19 : decode cL_hand 19 = .ok (.goto 7, 3) := by decide +kernel
theorem dL_hand_22 : decode cL_hand 22 = .ok (.astore 5, 2) := by decide +kernel
theorem dL_hand_24 : decode cL_hand 24 = .ok (.iconst 1, 1) := by decide +kernel
theorem dL_hand_25 : decode cL_hand 25 = .ok (.ireturn, 1) := by decide +kernel
theorem dL_hand_26 : decode cL_hand 26 = .ok (.iconst 0, 1) := by decide +kernel
theorem dL_hand_27 : decode cL_hand 27 = .ok (.ireturn, 1) := by decide +kernel
theorem dL_object_0 : decode cL_object 0 = .ok (.aload_n 0, 1) := by decide +kernel
theorem dL_object_1 : decode cL_object 1 = .ok (.iload_n 1, 1) := by decide +kernel
theorem dL_object_2 : decode cL_object 2 = .ok (.iload_n 2, 1) := by decide +kernel
theorem dL_object_3 : decode cL_object 3 = .ok (.invokevirtual 113, 3) := by decide +kernel
theorem dL_object_6 : decode cL_object 6 = .ok (.goto 9, 3) := by decide +kernel
theorem dL_object_9 : decode cL_object 9 = .ok (.astore_n 3, 1) := by decide +kernel
theorem dL_object_10 : decode cL_object 10 = .ok (.iconst 1, 1) := by decide +kernel
theorem dL_object_11 : decode cL_object 11 = .ok (.ireturn, 1) := by decide +kernel
theorem dL_object_12 : decode cL_object 12 = .ok (.astore_n 3, 1) := by decide +kernel
theorem dL_object_13 : decode cL_object 13 = .ok (.iconst 2, 1) := by decide +kernel
theorem dL_object_14 : decode cL_object 14 = .ok (.ireturn, 1) := by decide +kernel
theorem dL_object_15 : decode cL_object 15 = .ok (.iconst 0, 1) := by decide +kernel
theorem dL_object_16 : decode cL_object 16 = .ok (.ireturn, 1) := by decide +kernel
theorem dL_sustain_0 : decode cL_sustain 0 = .ok (.aload_n 0, 1) := by decide +kernel
theorem dL_sustain_1 : decode cL_sustain 1 = .ok (.iload_n 1, 1) := by decide +kernel
theorem dL_sustain_2 : decode cL_sustain 2 = .ok (.iload_n 2, 1) := by decide +kernel
theorem dL_sustain_3 : decode cL_sustain 3 = .ok (.iload_n 3, 1) := by decide +kernel
theorem dL_sustain_4 : decode cL_sustain 4 = .ok (.invokevirtual 117, 3) := by decide +kernel
theorem dL_sustain_7 : decode cL_sustain 7 = .ok (.goto 11, 3) := by decide +kernel
theorem dL_sustain_10 : decode cL_sustain 10 = .ok (.astore 4, 2) := by decide +kernel
theorem dL_sustain_12 : decode cL_sustain 12 = .ok (.iconst 1, 1) := by decide +kernel
theorem dL_sustain_13 : decode cL_sustain 13 = .ok (.ireturn, 1) := by decide +kernel
theorem dL_sustain_14 : decode cL_sustain 14 = .ok (.astore 4, 2) := by decide +kernel
theorem dL_sustain_16 : decode cL_sustain 16 = .ok (.iconst 2, 1) := by decide +kernel
theorem dL_sustain_17 : decode cL_sustain 17 = .ok (.ireturn, 1) := by decide +kernel
theorem dL_sustain_18 : decode cL_sustain 18 = .ok (.iconst 0, 1) := by decide +kernel
theorem dL_sustain_19 : decode cL_sustain 19 = .ok (.ireturn, 1) := by decide +kernel
theorem dL_isAdmitted_0 : decode cL_isAdmitted 0 = .ok (.aload_n 2, 1) := by decide +kernel
theorem dL_isAdmitted_1 : decode cL_isAdmitted 1 = .ok (.iconst 0, 1) := by decide +kernel
theorem dL_isAdmitted_2 : decode cL_isAdmitted 2 = .ok (.aload_n 0, 1) := by decide +kernel
theorem dL_isAdmitted_3 : decode cL_isAdmitted 3 = .ok (.iload_n 1, 1) := by decide +kernel
theorem dL_isAdmitted_4 : decode cL_isAdmitted 4 = .ok (.invokevirtual 121, 3) := by decide +kernel
theorem dL_isAdmitted_7 : decode cL_isAdmitted 7 = .ok (.ifCond .eq 7, 3) := by decide +kernel
theorem dL_isAdmitted_10 : decode cL_isAdmitted 10 = .ok (.lconst 1, 1) := by decide +kernel
theorem dL_isAdmitted_11 : decode cL_isAdmitted 11 = .ok (.goto 4, 3) := by decide +kernel
theorem dL_isAdmitted_14 : decode cL_isAdmitted 14 = .ok (.lconst 0, 1) := by decide +kernel
theorem dL_isAdmitted_15 : decode cL_isAdmitted 15 = .ok (.lastore, 1) := by decide +kernel
theorem dL_isAdmitted_16 : decode cL_isAdmitted 16 = .ok (.goto 6, 3) := by decide +kernel
theorem dL_isAdmitted_19 : decode cL_isAdmitted 19 = .ok (.astore_n 3, 1) := by decide +kernel
theorem dL_isAdmitted_20 : decode cL_isAdmitted 20 = .ok (.iconst 1, 1) := by decide +kernel
theorem dL_isAdmitted_21 : decode cL_isAdmitted 21 = .ok (.ireturn, 1) := by decide +kernel
theorem dL_isAdmitted_22 : decode cL_isAdmitted 22 = .ok (.iconst 0, 1) := by decide +kernel
theorem dL_isAdmitted_23 : decode cL_isAdmitted 23 = .ok (.ireturn, 1) := by decide +kernel
theorem dL_seal_0 : decode cL_seal 0 = .ok (.aload_n 3, 1) := by decide +kernel
theorem dL_seal_1 : decode cL_seal 1 = .ok (.iconst 0, 1) := by decide +kernel
theorem dL_seal_2 : decode cL_seal 2 = .ok (.aload_n 0, 1) := by decide +kernel
theorem dL_seal_3 : decode cL_seal 3 = .ok (.iload_n 1, 1) := by decide +kernel
theorem dL_seal_4 : decode cL_seal 4 = .ok (.iload_n 2, 1) := by decide +kernel
theorem dL_seal_5 : decode cL_seal 5 = .ok (.invokevirtual 124, 3) := by decide +kernel
theorem dL_seal_8 : decode cL_seal 8 = .ok (.ifCond .eq 7, 3) := by decide +kernel
theorem dL_seal_11 : decode cL_seal 11 = .ok (.lconst 1, 1) := by decide +kernel
theorem dL_seal_12 : decode cL_seal 12 = .ok (.goto 4, 3) := by decide +kernel
theorem dL_seal_15 : decode cL_seal 15 = .ok (.lconst 0, 1) := by decide +kernel
theorem dL_seal_16 : decode cL_seal 16 = .ok (.lastore, 1) := by decide +kernel
theorem dL_seal_17 : decode cL_seal 17 = .ok (.goto 7, 3) := by decide +kernel
theorem dL_seal_20 : decode cL_seal 20 = .ok (.astore 4, 2) := by decide +kernel
theorem dL_seal_22 : decode cL_seal 22 = .ok (.iconst 1, 1) := by decide +kernel
theorem dL_seal_23 : decode cL_seal 23 = .ok (.ireturn, 1) := by decide +kernel
theorem dL_seal_24 : decode cL_seal 24 = .ok (.iconst 0, 1) := by decide +kernel
theorem dL_seal_25 : decode cL_seal 25 = .ok (.ireturn, 1) := by decide +kernel
theorem dL_maySee_0 : decode cL_maySee 0 = .ok (.aload 4, 2) := by decide +kernel
theorem dL_maySee_2 : decode cL_maySee 2 = .ok (.iconst 0, 1) := by decide +kernel
theorem dL_maySee_3 : decode cL_maySee 3 = .ok (.aload_n 0, 1) := by decide +kernel
theorem dL_maySee_4 : decode cL_maySee 4 = .ok (.iload_n 1, 1) := by decide +kernel
theorem dL_maySee_5 : decode cL_maySee 5 = .ok (.iload_n 2, 1) := by decide +kernel
theorem dL_maySee_6 : decode cL_maySee 6 = .ok (.iload_n 3, 1) := by decide +kernel
theorem dL_maySee_7 : decode cL_maySee 7 = .ok (.invokevirtual 128, 3) := by decide +kernel
theorem dL_maySee_10 : decode cL_maySee 10 = .ok (.ifCond .eq 7, 3) := by decide +kernel
theorem dL_maySee_13 : decode cL_maySee 13 = .ok (.lconst 1, 1) := by decide +kernel
theorem dL_maySee_14 : decode cL_maySee 14 = .ok (.goto 4, 3) := by decide +kernel
theorem dL_maySee_17 : decode cL_maySee 17 = .ok (.lconst 0, 1) := by decide +kernel
theorem dL_maySee_18 : decode cL_maySee 18 = .ok (.lastore, 1) := by decide +kernel
theorem dL_maySee_19 : decode cL_maySee 19 = .ok (.goto 11, 3) := by decide +kernel
theorem dL_maySee_22 : decode cL_maySee 22 = .ok (.astore 5, 2) := by decide +kernel
theorem dL_maySee_24 : decode cL_maySee 24 = .ok (.iconst 1, 1) := by decide +kernel
theorem dL_maySee_25 : decode cL_maySee 25 = .ok (.ireturn, 1) := by decide +kernel
theorem dL_maySee_26 : decode cL_maySee 26 = .ok (.astore 5, 2) := by decide +kernel
theorem dL_maySee_28 : decode cL_maySee 28 = .ok (.iconst 2, 1) := by decide +kernel
theorem dL_maySee_29 : decode cL_maySee 29 = .ok (.ireturn, 1) := by decide +kernel
theorem dL_maySee_30 : decode cL_maySee 30 = .ok (.iconst 0, 1) := by decide +kernel
theorem dL_maySee_31 : decode cL_maySee 31 = .ok (.ireturn, 1) := by decide +kernel
theorem dL_certify_0 : decode cL_certify 0 = .ok (.aload_n 0, 1) := by decide +kernel
theorem dL_certify_1 : decode cL_certify 1 = .ok (.iload_n 1, 1) := by decide +kernel
theorem dL_certify_2 : decode cL_certify 2 = .ok (.invokevirtual 131, 3) := by decide +kernel
theorem dL_certify_5 : decode cL_certify 5 = .ok (.goto 9, 3) := by decide +kernel
theorem dL_certify_8 : decode cL_certify 8 = .ok (.astore_n 2, 1) := by decide +kernel
theorem dL_certify_9 : decode cL_certify 9 = .ok (.iconst 1, 1) := by decide +kernel
theorem dL_certify_10 : decode cL_certify 10 = .ok (.ireturn, 1) := by decide +kernel
theorem dL_certify_11 : decode cL_certify 11 = .ok (.astore_n 2, 1) := by decide +kernel
theorem dL_certify_12 : decode cL_certify 12 = .ok (.iconst 2, 1) := by decide +kernel
theorem dL_certify_13 : decode cL_certify 13 = .ok (.ireturn, 1) := by decide +kernel
theorem dL_certify_14 : decode cL_certify 14 = .ok (.iconst 0, 1) := by decide +kernel
theorem dL_certify_15 : decode cL_certify 15 = .ok (.ireturn, 1) := by decide +kernel
theorem dL_member_0 : decode cL_member 0 = .ok (.aload 4, 2) := by decide +kernel
theorem dL_member_2 : decode cL_member 2 = .ok (.iconst 0, 1) := by decide +kernel
theorem dL_member_3 : decode cL_member 3 = .ok (.aload_n 0, 1) := by decide +kernel
theorem dL_member_4 : decode cL_member 4 = .ok (.iload_n 1, 1) := by decide +kernel
theorem dL_member_5 : decode cL_member 5 = .ok (.iload_n 2, 1) := by decide +kernel
theorem dL_member_6 : decode cL_member 6 = .ok (.iload_n 3, 1) := by decide +kernel
theorem dL_member_7 : decode cL_member 7 = .ok (.invokevirtual 135, 3) := by decide +kernel
theorem dL_member_10 : decode cL_member 10 = .ok (.i2l, 1) := by decide +kernel
theorem dL_member_11 : decode cL_member 11 = .ok (.lastore, 1) := by decide +kernel
theorem dL_member_12 : decode cL_member 12 = .ok (.goto 11, 3) := by decide +kernel
theorem dL_member_15 : decode cL_member 15 = .ok (.astore 5, 2) := by decide +kernel
theorem dL_member_17 : decode cL_member 17 = .ok (.iconst 1, 1) := by decide +kernel
theorem dL_member_18 : decode cL_member 18 = .ok (.ireturn, 1) := by decide +kernel
theorem dL_member_19 : decode cL_member 19 = .ok (.astore 5, 2) := by decide +kernel
theorem dL_member_21 : decode cL_member 21 = .ok (.iconst 2, 1) := by decide +kernel
theorem dL_member_22 : decode cL_member 22 = .ok (.ireturn, 1) := by decide +kernel
theorem dL_member_23 : decode cL_member 23 = .ok (.iconst 0, 1) := by decide +kernel
theorem dL_member_24 : decode cL_member 24 = .ok (.ireturn, 1) := by decide +kernel
theorem dL_share_0 : decode cL_share 0 = .ok (.aload_n 3, 1) := by decide +kernel
theorem dL_share_1 : decode cL_share 1 = .ok (.iconst 0, 1) := by decide +kernel
theorem dL_share_2 : decode cL_share 2 = .ok (.aload_n 0, 1) := by decide +kernel
theorem dL_share_3 : decode cL_share 3 = .ok (.iload_n 1, 1) := by decide +kernel
theorem dL_share_4 : decode cL_share 4 = .ok (.iload_n 2, 1) := by decide +kernel
theorem dL_share_5 : decode cL_share 5 = .ok (.invokevirtual 138, 3) := by decide +kernel
theorem dL_share_8 : decode cL_share 8 = .ok (.i2l, 1) := by decide +kernel
theorem dL_share_9 : decode cL_share 9 = .ok (.lastore, 1) := by decide +kernel
theorem dL_share_10 : decode cL_share 10 = .ok (.goto 7, 3) := by decide +kernel
theorem dL_share_13 : decode cL_share 13 = .ok (.astore 4, 2) := by decide +kernel
theorem dL_share_15 : decode cL_share 15 = .ok (.iconst 1, 1) := by decide +kernel
theorem dL_share_16 : decode cL_share 16 = .ok (.ireturn, 1) := by decide +kernel
theorem dL_share_17 : decode cL_share 17 = .ok (.iconst 0, 1) := by decide +kernel
theorem dL_share_18 : decode cL_share 18 = .ok (.ireturn, 1) := by decide +kernel
theorem dL_entryAt_0 : decode cL_entryAt 0 = .ok (.aload_n 3, 1) := by decide +kernel
theorem dL_entryAt_1 : decode cL_entryAt 1 = .ok (.iconst 0, 1) := by decide +kernel
theorem dL_entryAt_2 : decode cL_entryAt 2 = .ok (.aload_n 0, 1) := by decide +kernel
theorem dL_entryAt_3 : decode cL_entryAt 3 = .ok (.iload_n 1, 1) := by decide +kernel
theorem dL_entryAt_4 : decode cL_entryAt 4 = .ok (.iload_n 2, 1) := by decide +kernel
theorem dL_entryAt_5 : decode cL_entryAt 5 = .ok (.invokevirtual 141, 3) := by decide +kernel
theorem dL_entryAt_8 : decode cL_entryAt 8 = .ok (.i2l, 1) := by decide +kernel
theorem dL_entryAt_9 : decode cL_entryAt 9 = .ok (.lastore, 1) := by decide +kernel
theorem dL_entryAt_10 : decode cL_entryAt 10 = .ok (.goto 7, 3) := by decide +kernel
theorem dL_entryAt_13 : decode cL_entryAt 13 = .ok (.astore 4, 2) := by decide +kernel
theorem dL_entryAt_15 : decode cL_entryAt 15 = .ok (.iconst 1, 1) := by decide +kernel
theorem dL_entryAt_16 : decode cL_entryAt 16 = .ok (.ireturn, 1) := by decide +kernel
theorem dL_entryAt_17 : decode cL_entryAt 17 = .ok (.iconst 0, 1) := by decide +kernel
theorem dL_entryAt_18 : decode cL_entryAt 18 = .ok (.ireturn, 1) := by decide +kernel
theorem dL_counts_0 : decode cL_counts 0 = .ok (.aload_n 2, 1) := by decide +kernel
theorem dL_counts_1 : decode cL_counts 1 = .ok (.iconst 0, 1) := by decide +kernel
theorem dL_counts_2 : decode cL_counts 2 = .ok (.aload_n 0, 1) := by decide +kernel
theorem dL_counts_3 : decode cL_counts 3 = .ok (.iload_n 1, 1) := by decide +kernel
theorem dL_counts_4 : decode cL_counts 4 = .ok (.invokevirtual 144, 3) := by decide +kernel
theorem dL_counts_7 : decode cL_counts 7 = .ok (.ifCond .eq 7, 3) := by decide +kernel
theorem dL_counts_10 : decode cL_counts 10 = .ok (.lconst 1, 1) := by decide +kernel
theorem dL_counts_11 : decode cL_counts 11 = .ok (.goto 4, 3) := by decide +kernel
theorem dL_counts_14 : decode cL_counts 14 = .ok (.lconst 0, 1) := by decide +kernel
theorem dL_counts_15 : decode cL_counts 15 = .ok (.lastore, 1) := by decide +kernel
theorem dL_counts_16 : decode cL_counts 16 = .ok (.goto 6, 3) := by decide +kernel
theorem dL_counts_19 : decode cL_counts 19 = .ok (.astore_n 3, 1) := by decide +kernel
theorem dL_counts_20 : decode cL_counts 20 = .ok (.iconst 1, 1) := by decide +kernel
theorem dL_counts_21 : decode cL_counts 21 = .ok (.ireturn, 1) := by decide +kernel
theorem dL_counts_22 : decode cL_counts 22 = .ok (.iconst 0, 1) := by decide +kernel
theorem dL_counts_23 : decode cL_counts 23 = .ok (.ireturn, 1) := by decide +kernel
theorem dL_stateOf_0 : decode cL_stateOf 0 = .ok (.aload_n 2, 1) := by decide +kernel
theorem dL_stateOf_1 : decode cL_stateOf 1 = .ok (.iconst 0, 1) := by decide +kernel
theorem dL_stateOf_2 : decode cL_stateOf 2 = .ok (.aload_n 0, 1) := by decide +kernel
theorem dL_stateOf_3 : decode cL_stateOf 3 = .ok (.iload_n 1, 1) := by decide +kernel
theorem dL_stateOf_4 : decode cL_stateOf 4 = .ok (.invokevirtual 147, 3) := by decide +kernel
theorem dL_stateOf_7 : decode cL_stateOf 7 = .ok (.i2l, 1) := by decide +kernel
theorem dL_stateOf_8 : decode cL_stateOf 8 = .ok (.lastore, 1) := by decide +kernel
theorem dL_stateOf_9 : decode cL_stateOf 9 = .ok (.goto 6, 3) := by decide +kernel
theorem dL_stateOf_12 : decode cL_stateOf 12 = .ok (.astore_n 3, 1) := by decide +kernel
theorem dL_stateOf_13 : decode cL_stateOf 13 = .ok (.iconst 1, 1) := by decide +kernel
theorem dL_stateOf_14 : decode cL_stateOf 14 = .ok (.ireturn, 1) := by decide +kernel
theorem dL_stateOf_15 : decode cL_stateOf 15 = .ok (.iconst 0, 1) := by decide +kernel
theorem dL_stateOf_16 : decode cL_stateOf 16 = .ok (.ireturn, 1) := by decide +kernel
theorem dL_stateByDocket_0 : decode cL_stateByDocket 0 = .ok (.aload_n 2, 1) := by decide +kernel
theorem dL_stateByDocket_1 : decode cL_stateByDocket 1 = .ok (.iconst 0, 1) := by decide +kernel
theorem dL_stateByDocket_2 : decode cL_stateByDocket 2 = .ok (.aload_n 0, 1) := by decide +kernel
theorem dL_stateByDocket_3 : decode cL_stateByDocket 3 = .ok (.iload_n 1, 1) := by decide +kernel
theorem dL_stateByDocket_4 : decode cL_stateByDocket 4 = .ok (.invokevirtual 150, 3) := by decide +kernel
theorem dL_stateByDocket_7 : decode cL_stateByDocket 7 = .ok (.i2l, 1) := by decide +kernel
theorem dL_stateByDocket_8 : decode cL_stateByDocket 8 = .ok (.lastore, 1) := by decide +kernel
theorem dL_stateByDocket_9 : decode cL_stateByDocket 9 = .ok (.goto 6, 3) := by decide +kernel
theorem dL_stateByDocket_12 : decode cL_stateByDocket 12 = .ok (.astore_n 3, 1) := by decide +kernel
theorem dL_stateByDocket_13 : decode cL_stateByDocket 13 = .ok (.iconst 1, 1) := by decide +kernel
theorem dL_stateByDocket_14 : decode cL_stateByDocket 14 = .ok (.ireturn, 1) := by decide +kernel
theorem dL_stateByDocket_15 : decode cL_stateByDocket 15 = .ok (.iconst 0, 1) := by decide +kernel
theorem dL_stateByDocket_16 : decode cL_stateByDocket 16 = .ok (.ireturn, 1) := by decide +kernel
theorem dL_amountOf_0 : decode cL_amountOf 0 = .ok (.aload_n 2, 1) := by decide +kernel
theorem dL_amountOf_1 : decode cL_amountOf 1 = .ok (.iconst 0, 1) := by decide +kernel
theorem dL_amountOf_2 : decode cL_amountOf 2 = .ok (.aload_n 0, 1) := by decide +kernel
theorem dL_amountOf_3 : decode cL_amountOf 3 = .ok (.iload_n 1, 1) := by decide +kernel
theorem dL_amountOf_4 : decode cL_amountOf 4 = .ok (.invokevirtual 153, 3) := by decide +kernel
theorem dL_amountOf_7 : decode cL_amountOf 7 = .ok (.i2l, 1) := by decide +kernel
theorem dL_amountOf_8 : decode cL_amountOf 8 = .ok (.lastore, 1) := by decide +kernel
theorem dL_amountOf_9 : decode cL_amountOf 9 = .ok (.goto 6, 3) := by decide +kernel
theorem dL_amountOf_12 : decode cL_amountOf 12 = .ok (.astore_n 3, 1) := by decide +kernel
theorem dL_amountOf_13 : decode cL_amountOf 13 = .ok (.iconst 1, 1) := by decide +kernel
theorem dL_amountOf_14 : decode cL_amountOf 14 = .ok (.ireturn, 1) := by decide +kernel
theorem dL_amountOf_15 : decode cL_amountOf 15 = .ok (.iconst 0, 1) := by decide +kernel
theorem dL_amountOf_16 : decode cL_amountOf 16 = .ok (.ireturn, 1) := by decide +kernel
theorem dL_balance_0 : decode cL_balance 0 = .ok (.aload_n 2, 1) := by decide +kernel
theorem dL_balance_1 : decode cL_balance 1 = .ok (.iconst 0, 1) := by decide +kernel
theorem dL_balance_2 : decode cL_balance 2 = .ok (.aload_n 0, 1) := by decide +kernel
theorem dL_balance_3 : decode cL_balance 3 = .ok (.iload_n 1, 1) := by decide +kernel
theorem dL_balance_4 : decode cL_balance 4 = .ok (.invokevirtual 156, 3) := by decide +kernel
theorem dL_balance_7 : decode cL_balance 7 = .ok (.i2l, 1) := by decide +kernel
theorem dL_balance_8 : decode cL_balance 8 = .ok (.lastore, 1) := by decide +kernel
theorem dL_balance_9 : decode cL_balance 9 = .ok (.goto 6, 3) := by decide +kernel
theorem dL_balance_12 : decode cL_balance 12 = .ok (.astore_n 3, 1) := by decide +kernel
theorem dL_balance_13 : decode cL_balance 13 = .ok (.iconst 1, 1) := by decide +kernel
theorem dL_balance_14 : decode cL_balance 14 = .ok (.ireturn, 1) := by decide +kernel
theorem dL_balance_15 : decode cL_balance 15 = .ok (.iconst 0, 1) := by decide +kernel
theorem dL_balance_16 : decode cL_balance 16 = .ok (.ireturn, 1) := by decide +kernel
theorem dL_caseOf_0 : decode cL_caseOf 0 = .ok (.aload_n 2, 1) := by decide +kernel
theorem dL_caseOf_1 : decode cL_caseOf 1 = .ok (.iconst 0, 1) := by decide +kernel
theorem dL_caseOf_2 : decode cL_caseOf 2 = .ok (.aload_n 0, 1) := by decide +kernel
theorem dL_caseOf_3 : decode cL_caseOf 3 = .ok (.iload_n 1, 1) := by decide +kernel
theorem dL_caseOf_4 : decode cL_caseOf 4 = .ok (.invokevirtual 159, 3) := by decide +kernel
theorem dL_caseOf_7 : decode cL_caseOf 7 = .ok (.i2l, 1) := by decide +kernel
theorem dL_caseOf_8 : decode cL_caseOf 8 = .ok (.lastore, 1) := by decide +kernel
theorem dL_caseOf_9 : decode cL_caseOf 9 = .ok (.goto 6, 3) := by decide +kernel
theorem dL_caseOf_12 : decode cL_caseOf 12 = .ok (.astore_n 3, 1) := by decide +kernel
theorem dL_caseOf_13 : decode cL_caseOf 13 = .ok (.iconst 1, 1) := by decide +kernel
theorem dL_caseOf_14 : decode cL_caseOf 14 = .ok (.ireturn, 1) := by decide +kernel
theorem dL_caseOf_15 : decode cL_caseOf 15 = .ok (.iconst 0, 1) := by decide +kernel
theorem dL_caseOf_16 : decode cL_caseOf 16 = .ok (.ireturn, 1) := by decide +kernel
theorem dL_isAnswered_0 : decode cL_isAnswered 0 = .ok (.aload_n 2, 1) := by decide +kernel
theorem dL_isAnswered_1 : decode cL_isAnswered 1 = .ok (.iconst 0, 1) := by decide +kernel
theorem dL_isAnswered_2 : decode cL_isAnswered 2 = .ok (.aload_n 0, 1) := by decide +kernel
theorem dL_isAnswered_3 : decode cL_isAnswered 3 = .ok (.iload_n 1, 1) := by decide +kernel
theorem dL_isAnswered_4 : decode cL_isAnswered 4 = .ok (.invokevirtual 162, 3) := by decide +kernel
theorem dL_isAnswered_7 : decode cL_isAnswered 7 = .ok (.ifCond .eq 7, 3) := by decide +kernel
theorem dL_isAnswered_10 : decode cL_isAnswered 10 = .ok (.lconst 1, 1) := by decide +kernel
theorem dL_isAnswered_11 : decode cL_isAnswered 11 = .ok (.goto 4, 3) := by decide +kernel
theorem dL_isAnswered_14 : decode cL_isAnswered 14 = .ok (.lconst 0, 1) := by decide +kernel
theorem dL_isAnswered_15 : decode cL_isAnswered 15 = .ok (.lastore, 1) := by decide +kernel
theorem dL_isAnswered_16 : decode cL_isAnswered 16 = .ok (.goto 6, 3) := by decide +kernel
theorem dL_isAnswered_19 : decode cL_isAnswered 19 = .ok (.astore_n 3, 1) := by decide +kernel
theorem dL_isAnswered_20 : decode cL_isAnswered 20 = .ok (.iconst 1, 1) := by decide +kernel
theorem dL_isAnswered_21 : decode cL_isAnswered 21 = .ok (.ireturn, 1) := by decide +kernel
theorem dL_isAnswered_22 : decode cL_isAnswered 22 = .ok (.iconst 0, 1) := by decide +kernel
theorem dL_isAnswered_23 : decode cL_isAnswered 23 = .ok (.ireturn, 1) := by decide +kernel
theorem dL_due_0 : decode cL_due 0 = .ok (.aload_n 3, 1) := by decide +kernel
theorem dL_due_1 : decode cL_due 1 = .ok (.iconst 0, 1) := by decide +kernel
theorem dL_due_2 : decode cL_due 2 = .ok (.aload_n 0, 1) := by decide +kernel
theorem dL_due_3 : decode cL_due 3 = .ok (.iload_n 1, 1) := by decide +kernel
theorem dL_due_4 : decode cL_due 4 = .ok (.iload_n 2, 1) := by decide +kernel
theorem dL_due_5 : decode cL_due 5 = .ok (.invokevirtual 165, 3) := by decide +kernel
theorem dL_due_8 : decode cL_due 8 = .ok (.i2l, 1) := by decide +kernel
theorem dL_due_9 : decode cL_due 9 = .ok (.lastore, 1) := by decide +kernel
theorem dL_due_10 : decode cL_due 10 = .ok (.goto 7, 3) := by decide +kernel
theorem dL_due_13 : decode cL_due 13 = .ok (.astore 4, 2) := by decide +kernel
theorem dL_due_15 : decode cL_due 15 = .ok (.iconst 1, 1) := by decide +kernel
theorem dL_due_16 : decode cL_due 16 = .ok (.ireturn, 1) := by decide +kernel
theorem dL_due_17 : decode cL_due 17 = .ok (.iconst 0, 1) := by decide +kernel
theorem dL_due_18 : decode cL_due 18 = .ok (.ireturn, 1) := by decide +kernel
theorem dL_dueByDays_0 : decode cL_dueByDays 0 = .ok (.aload_n 3, 1) := by decide +kernel
theorem dL_dueByDays_1 : decode cL_dueByDays 1 = .ok (.iconst 0, 1) := by decide +kernel
theorem dL_dueByDays_2 : decode cL_dueByDays 2 = .ok (.aload_n 0, 1) := by decide +kernel
theorem dL_dueByDays_3 : decode cL_dueByDays 3 = .ok (.iload_n 1, 1) := by decide +kernel
theorem dL_dueByDays_4 : decode cL_dueByDays 4 = .ok (.iload_n 2, 1) := by decide +kernel
theorem dL_dueByDays_5 : decode cL_dueByDays 5 = .ok (.invokevirtual 168, 3) := by decide +kernel
theorem dL_dueByDays_8 : decode cL_dueByDays 8 = .ok (.i2l, 1) := by decide +kernel
theorem dL_dueByDays_9 : decode cL_dueByDays 9 = .ok (.lastore, 1) := by decide +kernel
theorem dL_dueByDays_10 : decode cL_dueByDays 10 = .ok (.goto 7, 3) := by decide +kernel
theorem dL_dueByDays_13 : decode cL_dueByDays 13 = .ok (.astore 4, 2) := by decide +kernel
theorem dL_dueByDays_15 : decode cL_dueByDays 15 = .ok (.iconst 1, 1) := by decide +kernel
theorem dL_dueByDays_16 : decode cL_dueByDays 16 = .ok (.ireturn, 1) := by decide +kernel
theorem dL_dueByDays_17 : decode cL_dueByDays 17 = .ok (.iconst 0, 1) := by decide +kernel
theorem dL_dueByDays_18 : decode cL_dueByDays 18 = .ok (.ireturn, 1) := by decide +kernel
theorem dL_hearingAt_0 : decode cL_hearingAt 0 = .ok (.aload_n 2, 1) := by decide +kernel
theorem dL_hearingAt_1 : decode cL_hearingAt 1 = .ok (.iconst 0, 1) := by decide +kernel
theorem dL_hearingAt_2 : decode cL_hearingAt 2 = .ok (.aload_n 0, 1) := by decide +kernel
theorem dL_hearingAt_3 : decode cL_hearingAt 3 = .ok (.iload_n 1, 1) := by decide +kernel
theorem dL_hearingAt_4 : decode cL_hearingAt 4 = .ok (.invokevirtual 171, 3) := by decide +kernel
theorem dL_hearingAt_7 : decode cL_hearingAt 7 = .ok (.i2l, 1) := by decide +kernel
theorem dL_hearingAt_8 : decode cL_hearingAt 8 = .ok (.lastore, 1) := by decide +kernel
theorem dL_hearingAt_9 : decode cL_hearingAt 9 = .ok (.goto 6, 3) := by decide +kernel
theorem dL_hearingAt_12 : decode cL_hearingAt 12 = .ok (.astore_n 3, 1) := by decide +kernel
theorem dL_hearingAt_13 : decode cL_hearingAt 13 = .ok (.iconst 1, 1) := by decide +kernel
theorem dL_hearingAt_14 : decode cL_hearingAt 14 = .ok (.ireturn, 1) := by decide +kernel
theorem dL_hearingAt_15 : decode cL_hearingAt 15 = .ok (.iconst 0, 1) := by decide +kernel
theorem dL_hearingAt_16 : decode cL_hearingAt 16 = .ok (.ireturn, 1) := by decide +kernel
