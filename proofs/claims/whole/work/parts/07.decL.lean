/-! what the bytes say, row by row -/
theorem dL_open_0 : decode cL_open 0 = .ok (.aload_n 2, 1) := by decide +kernel
theorem dL_open_1 : decode cL_open 1 = .ok (.iconst 0, 1) := by decide +kernel
theorem dL_open_2 : decode cL_open 2 = .ok (.aload_n 0, 1) := by decide +kernel
theorem dL_open_3 : decode cL_open 3 = .ok (.iload_n 1, 1) := by decide +kernel
theorem dL_open_4 : decode cL_open 4 = .ok (.invokevirtual 7, 3) := by decide +kernel
theorem dL_open_7 : decode cL_open 7 = .ok (.i2l, 1) := by decide +kernel
theorem dL_open_8 : decode cL_open 8 = .ok (.lastore, 1) := by decide +kernel
theorem dL_open_9 : decode cL_open 9 = .ok (.goto 9, 3) := by decide +kernel
theorem dL_open_12 : decode cL_open 12 = .ok (.astore_n 3, 1) := by decide +kernel
theorem dL_open_13 : decode cL_open 13 = .ok (.iconst 1, 1) := by decide +kernel
theorem dL_open_14 : decode cL_open 14 = .ok (.ireturn, 1) := by decide +kernel
theorem dL_open_15 : decode cL_open 15 = .ok (.astore_n 3, 1) := by decide +kernel
theorem dL_open_16 : decode cL_open 16 = .ok (.iconst 2, 1) := by decide +kernel
theorem dL_open_17 : decode cL_open 17 = .ok (.ireturn, 1) := by decide +kernel
theorem dL_open_18 : decode cL_open 18 = .ok (.iconst 0, 1) := by decide +kernel
theorem dL_open_19 : decode cL_open 19 = .ok (.ireturn, 1) := by decide +kernel
theorem dL_openBelow_0 : decode cL_openBelow 0 = .ok (.aload_n 2, 1) := by decide +kernel
theorem dL_openBelow_1 : decode cL_openBelow 1 = .ok (.iconst 0, 1) := by decide +kernel
theorem dL_openBelow_2 : decode cL_openBelow 2 = .ok (.aload_n 0, 1) := by decide +kernel
theorem dL_openBelow_3 : decode cL_openBelow 3 = .ok (.iload_n 1, 1) := by decide +kernel
theorem dL_openBelow_4 : decode cL_openBelow 4 = .ok (.invokevirtual 17, 3) := by decide +kernel
theorem dL_openBelow_7 : decode cL_openBelow 7 = .ok (.i2l, 1) := by decide +kernel
theorem dL_openBelow_8 : decode cL_openBelow 8 = .ok (.lastore, 1) := by decide +kernel
theorem dL_openBelow_9 : decode cL_openBelow 9 = .ok (.goto 9, 3) := by decide +kernel
theorem dL_openBelow_12 : decode cL_openBelow 12 = .ok (.astore_n 3, 1) := by decide +kernel
theorem dL_openBelow_13 : decode cL_openBelow 13 = .ok (.iconst 1, 1) := by decide +kernel
theorem dL_openBelow_14 : decode cL_openBelow 14 = .ok (.ireturn, 1) := by decide +kernel
theorem dL_openBelow_15 : decode cL_openBelow 15 = .ok (.astore_n 3, 1) := by decide +kernel
theorem dL_openBelow_16 : decode cL_openBelow 16 = .ok (.iconst 2, 1) := by decide +kernel
theorem dL_openBelow_17 : decode cL_openBelow 17 = .ok (.ireturn, 1) := by decide +kernel
theorem dL_openBelow_18 : decode cL_openBelow 18 = .ok (.iconst 0, 1) := by decide +kernel
theorem dL_openBelow_19 : decode cL_openBelow 19 = .ok (.ireturn, 1) := by decide +kernel
theorem dL_post_0 : decode cL_post 0 = .ok (.aload 4, 2) := by decide +kernel
theorem dL_post_2 : decode cL_post 2 = .ok (.iconst 0, 1) := by decide +kernel
theorem dL_post_3 : decode cL_post 3 = .ok (.aload_n 0, 1) := by decide +kernel
theorem dL_post_4 : decode cL_post 4 = .ok (.iload_n 1, 1) := by decide +kernel
theorem dL_post_5 : decode cL_post 5 = .ok (.iload_n 2, 1) := by decide +kernel
theorem dL_post_6 : decode cL_post 6 = .ok (.iload_n 3, 1) := by decide +kernel
theorem dL_post_7 : decode cL_post 7 = .ok (.invokevirtual 23, 3) := by decide +kernel
theorem dL_post_10 : decode cL_post 10 = .ok (.i2l, 1) := by decide +kernel
theorem dL_post_11 : decode cL_post 11 = .ok (.lastore, 1) := by decide +kernel
theorem dL_post_12 : decode cL_post 12 = .ok (.goto 11, 3) := by decide +kernel
theorem dL_post_15 : decode cL_post 15 = .ok (.astore 5, 2) := by decide +kernel
theorem dL_post_17 : decode cL_post 17 = .ok (.iconst 1, 1) := by decide +kernel
theorem dL_post_18 : decode cL_post 18 = .ok (.ireturn, 1) := by decide +kernel
theorem dL_post_19 : decode cL_post 19 = .ok (.astore 5, 2) := by decide +kernel
theorem dL_post_21 : decode cL_post 21 = .ok (.iconst 2, 1) := by decide +kernel
theorem dL_post_22 : decode cL_post 22 = .ok (.ireturn, 1) := by decide +kernel
theorem dL_post_23 : decode cL_post 23 = .ok (.iconst 0, 1) := by decide +kernel
theorem dL_post_24 : decode cL_post 24 = .ok (.ireturn, 1) := by decide +kernel
theorem dL_reverse_0 : decode cL_reverse 0 = .ok (.aload_n 2, 1) := by decide +kernel
theorem dL_reverse_1 : decode cL_reverse 1 = .ok (.iconst 0, 1) := by decide +kernel
theorem dL_reverse_2 : decode cL_reverse 2 = .ok (.aload_n 0, 1) := by decide +kernel
theorem dL_reverse_3 : decode cL_reverse 3 = .ok (.iload_n 1, 1) := by decide +kernel
theorem dL_reverse_4 : decode cL_reverse 4 = .ok (.invokevirtual 27, 3) := by decide +kernel
theorem dL_reverse_7 : decode cL_reverse 7 = .ok (.i2l, 1) := by decide +kernel
theorem dL_reverse_8 : decode cL_reverse 8 = .ok (.lastore, 1) := by decide +kernel
theorem dL_reverse_9 : decode cL_reverse 9 = .ok (.goto 9, 3) := by decide +kernel
theorem dL_reverse_12 : decode cL_reverse 12 = .ok (.astore_n 3, 1) := by decide +kernel
theorem dL_reverse_13 : decode cL_reverse 13 = .ok (.iconst 1, 1) := by decide +kernel
theorem dL_reverse_14 : decode cL_reverse 14 = .ok (.ireturn, 1) := by decide +kernel
theorem dL_reverse_15 : decode cL_reverse 15 = .ok (.astore_n 3, 1) := by decide +kernel
theorem dL_reverse_16 : decode cL_reverse 16 = .ok (.iconst 2, 1) := by decide +kernel
theorem dL_reverse_17 : decode cL_reverse 17 = .ok (.ireturn, 1) := by decide +kernel
theorem dL_reverse_18 : decode cL_reverse 18 = .ok (.iconst 0, 1) := by decide +kernel
theorem dL_reverse_19 : decode cL_reverse 19 = .ok (.ireturn, 1) := by decide +kernel
theorem dL_prompt_0 : decode cL_prompt 0 = .ok (.aload 6, 2) := by decide +kernel
theorem dL_prompt_2 : decode cL_prompt 2 = .ok (.iconst 0, 1) := by decide +kernel
theorem dL_prompt_3 : decode cL_prompt 3 = .ok (.aload_n 0, 1) := by decide +kernel
theorem dL_prompt_4 : decode cL_prompt 4 = .ok (.iload_n 1, 1) := by decide +kernel
theorem dL_prompt_5 : decode cL_prompt 5 = .ok (.iload_n 2, 1) := by decide +kernel
theorem dL_prompt_6 : decode cL_prompt 6 = .ok (.iload_n 3, 1) := by decide +kernel
theorem dL_prompt_7 : decode cL_prompt 7 = .ok (.iload 4, 2) := by decide +kernel
theorem dL_prompt_9 : decode cL_prompt 9 = .ok (.iload 5, 2) := by decide +kernel
theorem dL_prompt_11 : decode cL_prompt 11 = .ok (.invokevirtual 32, 3) := by decide +kernel
theorem dL_prompt_14 : decode cL_prompt 14 = .ok (.i2l, 1) := by decide +kernel
theorem dL_prompt_15 : decode cL_prompt 15 = .ok (.lastore, 1) := by decide +kernel
theorem dL_prompt_16 : decode cL_prompt 16 = .ok (.goto 15, 3) := by decide +kernel
theorem dL_prompt_19 : decode cL_prompt 19 = .ok (.astore 7, 2) := by decide +kernel
theorem dL_prompt_21 : decode cL_prompt 21 = .ok (.iconst 1, 1) := by decide +kernel
theorem dL_prompt_22 : decode cL_prompt 22 = .ok (.ireturn, 1) := by decide +kernel
theorem dL_prompt_23 : decode cL_prompt 23 = .ok (.astore 7, 2) := by decide +kernel
theorem dL_prompt_25 : decode cL_prompt 25 = .ok (.iconst 2, 1) := by decide +kernel
theorem dL_prompt_26 : decode cL_prompt 26 = .ok (.ireturn, 1) := by decide +kernel
theorem dL_prompt_27 : decode cL_prompt 27 = .ok (.astore 7, 2) := by decide +kernel
theorem dL_prompt_29 : decode cL_prompt 29 = .ok (.iconst 3, 1) := by decide +kernel
theorem dL_prompt_30 : decode cL_prompt 30 = .ok (.ireturn, 1) := by decide +kernel
theorem dL_prompt_31 : decode cL_prompt 31 = .ok (.iconst 0, 1) := by decide +kernel
theorem dL_prompt_32 : decode cL_prompt 32 = .ok (.ireturn, 1) := by decide +kernel
theorem dL_cancelPrompt_0 : decode cL_cancelPrompt 0 = .ok (.aload_n 2, 1) := by decide +kernel
theorem dL_cancelPrompt_1 : decode cL_cancelPrompt 1 = .ok (.iconst 0, 1) := by decide +kernel
theorem dL_cancelPrompt_2 : decode cL_cancelPrompt 2 = .ok (.aload_n 0, 1) := by decide +kernel
theorem dL_cancelPrompt_3 : decode cL_cancelPrompt 3 = .ok (.iload_n 1, 1) := by decide +kernel
theorem dL_cancelPrompt_4 : decode cL_cancelPrompt 4 = .ok (.invokevirtual 36, 3) := by decide +kernel
theorem dL_cancelPrompt_7 : decode cL_cancelPrompt 7 = .ok (.i2l, 1) := by decide +kernel
theorem dL_cancelPrompt_8 : decode cL_cancelPrompt 8 = .ok (.lastore, 1) := by decide +kernel
theorem dL_cancelPrompt_9 : decode cL_cancelPrompt 9 = .ok (.goto 6, 3) := by decide +kernel
theorem dL_cancelPrompt_12 : decode cL_cancelPrompt 12 = .ok (.astore_n 3, 1) := by decide +kernel
theorem dL_cancelPrompt_13 : decode cL_cancelPrompt 13 = .ok (.iconst 1, 1) := by decide +kernel
theorem dL_cancelPrompt_14 : decode cL_cancelPrompt 14 = .ok (.ireturn, 1) := by decide +kernel
theorem dL_cancelPrompt_15 : decode cL_cancelPrompt 15 = .ok (.iconst 0, 1) := by decide +kernel
theorem dL_cancelPrompt_16 : decode cL_cancelPrompt 16 = .ok (.ireturn, 1) := by decide +kernel
theorem dL_passHours_0 : decode cL_passHours 0 = .ok (.aload_n 2, 1) := by decide +kernel
theorem dL_passHours_1 : decode cL_passHours 1 = .ok (.iconst 0, 1) := by decide +kernel
theorem dL_passHours_2 : decode cL_passHours 2 = .ok (.aload_n 0, 1) := by decide +kernel
theorem dL_passHours_3 : decode cL_passHours 3 = .ok (.iload_n 1, 1) := by decide +kernel
theorem dL_passHours_4 : decode cL_passHours 4 = .ok (.invokevirtual 39, 3) := by decide +kernel
theorem dL_passHours_7 : decode cL_passHours 7 = .ok (.i2l, 1) := by decide +kernel
theorem dL_passHours_8 : decode cL_passHours 8 = .ok (.lastore, 1) := by decide +kernel
theorem dL_passHours_9 : decode cL_passHours 9 = .ok (.goto 6, 3) := by decide +kernel
theorem dL_passHours_12 : decode cL_passHours 12 = .ok (.astore_n 3, 1) := by decide +kernel
theorem dL_passHours_13 : decode cL_passHours 13 = .ok (.iconst 1, 1) := by decide +kernel
theorem dL_passHours_14 : decode cL_passHours 14 = .ok (.ireturn, 1) := by decide +kernel
theorem dL_passHours_15 : decode cL_passHours 15 = .ok (.iconst 0, 1) := by decide +kernel
theorem dL_passHours_16 : decode cL_passHours 16 = .ok (.ireturn, 1) := by decide +kernel
theorem dL_buy_0 : decode cL_buy 0 = .ok (.aload_n 3, 1) := by decide +kernel
theorem dL_buy_1 : decode cL_buy 1 = .ok (.iconst 0, 1) := by decide +kernel
theorem dL_buy_2 : decode cL_buy 2 = .ok (.aload_n 0, 1) := by decide +kernel
theorem dL_buy_3 : decode cL_buy 3 = .ok (.iload_n 1, 1) := by decide +kernel
theorem dL_buy_4 : decode cL_buy 4 = .ok (.iload_n 2, 1) := by decide +kernel
theorem dL_buy_5 : decode cL_buy 5 = .ok (.invokevirtual 42, 3) := by decide +kernel
theorem dL_buy_8 : decode cL_buy 8 = .ok (.i2l, 1) := by decide +kernel
theorem dL_buy_9 : decode cL_buy 9 = .ok (.lastore, 1) := by decide +kernel
theorem dL_buy_10 : decode cL_buy 10 = .ok (.goto 15, 3) := by decide +kernel
theorem dL_buy_13 : decode cL_buy 13 = .ok (.astore 4, 2) := by decide +kernel
theorem dL_buy_15 : decode cL_buy 15 = .ok (.iconst 1, 1) := by decide +kernel
theorem dL_buy_16 : decode cL_buy 16 = .ok (.ireturn, 1) := by decide +kernel
theorem dL_buy_17 : decode cL_buy 17 = .ok (.astore 4, 2) := by decide +kernel
theorem dL_buy_19 : decode cL_buy 19 = .ok (.iconst 2, 1) := by decide +kernel
theorem dL_buy_20 : decode cL_buy 20 = .ok (.ireturn, 1) := by decide +kernel
theorem dL_buy_21 : decode cL_buy 21 = .ok (.astore 4, 2) := by decide +kernel
theorem dL_buy_23 : decode cL_buy 23 = .ok (.iconst 3, 1) := by decide +kernel
theorem dL_buy_24 : decode cL_buy 24 = .ok (.ireturn, 1) := by decide +kernel
theorem dL_buy_25 : decode cL_buy 25 = .ok (.iconst 0, 1) := by decide +kernel
theorem dL_buy_26 : decode cL_buy 26 = .ok (.ireturn, 1) := by decide +kernel
theorem dL_sell_0 : decode cL_sell 0 = .ok (.aload_n 3, 1) := by decide +kernel
theorem dL_sell_1 : decode cL_sell 1 = .ok (.iconst 0, 1) := by decide +kernel
theorem dL_sell_2 : decode cL_sell 2 = .ok (.aload_n 0, 1) := by decide +kernel
theorem dL_sell_3 : decode cL_sell 3 = .ok (.iload_n 1, 1) := by decide +kernel
theorem dL_sell_4 : decode cL_sell 4 = .ok (.iload_n 2, 1) := by decide +kernel
theorem dL_sell_5 : decode cL_sell 5 = .ok (.invokevirtual 48, 3) := by decide +kernel
theorem dL_sell_8 : decode cL_sell 8 = .ok (.i2l, 1) := by decide +kernel
theorem dL_sell_9 : decode cL_sell 9 = .ok (.lastore, 1) := by decide +kernel
theorem dL_sell_10 : decode cL_sell 10 = .ok (.goto 11, 3) := by decide +kernel
theorem dL_sell_13 : decode cL_sell 13 = .ok (.astore 4, 2) := by decide +kernel
theorem dL_sell_15 : decode cL_sell 15 = .ok (.iconst 1, 1) := by decide +kernel
theorem dL_sell_16 : decode cL_sell 16 = .ok (.ireturn, 1) := by decide +kernel
theorem dL_sell_17 : decode cL_sell 17 = .ok (.astore 4, 2) := by decide +kernel
theorem dL_sell_19 : decode cL_sell 19 = .ok (.iconst 2, 1) := by decide +kernel
theorem dL_sell_20 : decode cL_sell 20 = .ok (.ireturn, 1) := by decide +kernel
theorem dL_sell_21 : decode cL_sell 21 = .ok (.iconst 0, 1) := by decide +kernel
theorem dL_sell_22 : decode cL_sell 22 = .ok (.ireturn, 1) := by decide +kernel
theorem dL_bill_0 : decode cL_bill 0 = .ok (.aload_n 2, 1) := by decide +kernel
theorem dL_bill_1 : decode cL_bill 1 = .ok (.iconst 0, 1) := by decide +kernel
theorem dL_bill_2 : decode cL_bill 2 = .ok (.aload_n 0, 1) := by decide +kernel
theorem dL_bill_3 : decode cL_bill 3 = .ok (.iload_n 1, 1) := by decide +kernel
theorem dL_bill_4 : decode cL_bill 4 = .ok (.invokevirtual 51, 3) := by decide +kernel
theorem dL_bill_7 : decode cL_bill 7 = .ok (.i2l, 1) := by decide +kernel
theorem dL_bill_8 : decode cL_bill 8 = .ok (.lastore, 1) := by decide +kernel
theorem dL_bill_9 : decode cL_bill 9 = .ok (.goto 9, 3) := by decide +kernel
theorem dL_bill_12 : decode cL_bill 12 = .ok (.astore_n 3, 1) := by decide +kernel
theorem dL_bill_13 : decode cL_bill 13 = .ok (.iconst 1, 1) := by decide +kernel
theorem dL_bill_14 : decode cL_bill 14 = .ok (.ireturn, 1) := by decide +kernel
theorem dL_bill_15 : decode cL_bill 15 = .ok (.astore_n 3, 1) := by decide +kernel
theorem dL_bill_16 : decode cL_bill 16 = .ok (.iconst 2, 1) := by decide +kernel
theorem dL_bill_17 : decode cL_bill 17 = .ok (.ireturn, 1) := by decide +kernel
theorem dL_bill_18 : decode cL_bill 18 = .ok (.iconst 0, 1) := by decide +kernel
theorem dL_bill_19 : decode cL_bill 19 = .ok (.ireturn, 1) := by decide +kernel
theorem dL_pay_0 : decode cL_pay 0 = .ok (.aload_n 2, 1) := by decide +kernel
theorem dL_pay_1 : decode cL_pay 1 = .ok (.iconst 0, 1) := by decide +kernel
theorem dL_pay_2 : decode cL_pay 2 = .ok (.aload_n 0, 1) := by decide +kernel
theorem dL_pay_3 : decode cL_pay 3 = .ok (.iload_n 1, 1) := by decide +kernel
theorem dL_pay_4 : decode cL_pay 4 = .ok (.invokevirtual 54, 3) := by decide +kernel
theorem dL_pay_7 : decode cL_pay 7 = .ok (.i2l, 1) := by decide +kernel
theorem dL_pay_8 : decode cL_pay 8 = .ok (.lastore, 1) := by decide +kernel
theorem dL_pay_9 : decode cL_pay 9 = .ok (.goto 9, 3) := by decide +kernel
theorem dL_pay_12 : decode cL_pay 12 = .ok (.astore_n 3, 1) := by decide +kernel
theorem dL_pay_13 : decode cL_pay 13 = .ok (.iconst 1, 1) := by decide +kernel
theorem dL_pay_14 : decode cL_pay 14 = .ok (.ireturn, 1) := by decide +kernel
theorem dL_pay_15 : decode cL_pay 15 = .ok (.astore_n 3, 1) := by decide +kernel
theorem dL_pay_16 : decode cL_pay 16 = .ok (.iconst 2, 1) := by decide +kernel
theorem dL_pay_17 : decode cL_pay 17 = .ok (.ireturn, 1) := by decide +kernel
theorem dL_pay_18 : decode cL_pay 18 = .ok (.iconst 0, 1) := by decide +kernel
theorem dL_pay_19 : decode cL_pay 19 = .ok (.ireturn, 1) := by decide +kernel
theorem dL_kind_0 : decode cL_kind 0 = .ok (.aload_n 2, 1) := by decide +kernel
theorem dL_kind_1 : decode cL_kind 1 = .ok (.iconst 0, 1) := by decide +kernel
theorem dL_kind_2 : decode cL_kind 2 = .ok (.aload_n 0, 1) := by decide +kernel
theorem dL_kind_3 : decode cL_kind 3 = .ok (.iload_n 1, 1) := by decide +kernel
theorem dL_kind_4 : decode cL_kind 4 = .ok (.invokevirtual 57, 3) := by decide +kernel
theorem dL_kind_7 : decode cL_kind 7 = .ok (.i2l, 1) := by decide +kernel
theorem dL_kind_8 : decode cL_kind 8 = .ok (.lastore, 1) := by decide +kernel
theorem dL_kind_9 : decode cL_kind 9 = .ok (.goto 6, 3) := by decide +kernel
theorem dL_kind_12 : decode cL_kind 12 = .ok (.astore_n 3, 1) := by decide +kernel
theorem dL_kind_13 : decode cL_kind 13 = .ok (.iconst 1, 1) := by decide +kernel
theorem dL_kind_14 : decode cL_kind 14 = .ok (.ireturn, 1) := by decide +kernel
theorem dL_kind_15 : decode cL_kind 15 = .ok (.iconst 0, 1) := by decide +kernel
theorem dL_kind_16 : decode cL_kind 16 = .ok (.ireturn, 1) := by decide +kernel
theorem dL_parent_0 : decode cL_parent 0 = .ok (.aload_n 2, 1) := by decide +kernel
theorem dL_parent_1 : decode cL_parent 1 = .ok (.iconst 0, 1) := by decide +kernel
theorem dL_parent_2 : decode cL_parent 2 = .ok (.aload_n 0, 1) := by decide +kernel
theorem dL_parent_3 : decode cL_parent 3 = .ok (.iload_n 1, 1) := by decide +kernel
theorem dL_parent_4 : decode cL_parent 4 = .ok (.invokevirtual 61, 3) := by decide +kernel
theorem dL_parent_7 : decode cL_parent 7 = .ok (.i2l, 1) := by decide +kernel
theorem dL_parent_8 : decode cL_parent 8 = .ok (.lastore, 1) := by decide +kernel
theorem dL_parent_9 : decode cL_parent 9 = .ok (.goto 9, 3) := by decide +kernel
theorem dL_parent_12 : decode cL_parent 12 = .ok (.astore_n 3, 1) := by decide +kernel
theorem dL_parent_13 : decode cL_parent 13 = .ok (.iconst 1, 1) := by decide +kernel
theorem dL_parent_14 : decode cL_parent 14 = .ok (.ireturn, 1) := by decide +kernel
theorem dL_parent_15 : decode cL_parent 15 = .ok (.astore_n 3, 1) := by decide +kernel
theorem dL_parent_16 : decode cL_parent 16 = .ok (.iconst 2, 1) := by decide +kernel
theorem dL_parent_17 : decode cL_parent 17 = .ok (.ireturn, 1) := by decide +kernel
theorem dL_parent_18 : decode cL_parent 18 = .ok (.iconst 0, 1) := by decide +kernel
theorem dL_parent_19 : decode cL_parent 19 = .ok (.ireturn, 1) := by decide +kernel
theorem dL_debits_0 : decode cL_debits 0 = .ok (.aload_n 2, 1) := by decide +kernel
theorem dL_debits_1 : decode cL_debits 1 = .ok (.iconst 0, 1) := by decide +kernel
theorem dL_debits_2 : decode cL_debits 2 = .ok (.aload_n 0, 1) := by decide +kernel
theorem dL_debits_3 : decode cL_debits 3 = .ok (.iload_n 1, 1) := by decide +kernel
theorem dL_debits_4 : decode cL_debits 4 = .ok (.invokevirtual 64, 3) := by decide +kernel
theorem dL_debits_7 : decode cL_debits 7 = .ok (.lastore, 1) := by decide +kernel
theorem dL_debits_8 : decode cL_debits 8 = .ok (.goto 6, 3) := by decide +kernel
theorem dL_debits_11 : decode cL_debits 11 = .ok (.astore_n 3, 1) := by decide +kernel
theorem dL_debits_12 : decode cL_debits 12 = .ok (.iconst 1, 1) := by decide +kernel
theorem dL_debits_13 : decode cL_debits 13 = .ok (.ireturn, 1) := by decide +kernel
theorem dL_debits_14 : decode cL_debits 14 = .ok (.iconst 0, 1) := by decide +kernel
theorem dL_debits_15 : decode cL_debits 15 = .ok (.ireturn, 1) := by decide +kernel
theorem dL_credits_0 : decode cL_credits 0 = .ok (.aload_n 2, 1) := by decide +kernel
theorem dL_credits_1 : decode cL_credits 1 = .ok (.iconst 0, 1) := by decide +kernel
theorem dL_credits_2 : decode cL_credits 2 = .ok (.aload_n 0, 1) := by decide +kernel
theorem dL_credits_3 : decode cL_credits 3 = .ok (.iload_n 1, 1) := by decide +kernel
theorem dL_credits_4 : decode cL_credits 4 = .ok (.invokevirtual 68, 3) := by decide +kernel
theorem dL_credits_7 : decode cL_credits 7 = .ok (.lastore, 1) := by decide +kernel
theorem dL_credits_8 : decode cL_credits 8 = .ok (.goto 6, 3) := by decide +kernel
theorem dL_credits_11 : decode cL_credits 11 = .ok (.astore_n 3, 1) := by decide +kernel
theorem dL_credits_12 : decode cL_credits 12 = .ok (.iconst 1, 1) := by decide +kernel
theorem dL_credits_13 : decode cL_credits 13 = .ok (.ireturn, 1) := by decide +kernel
theorem dL_credits_14 : decode cL_credits 14 = .ok (.iconst 0, 1) := by decide +kernel
theorem dL_credits_15 : decode cL_credits 15 = .ok (.ireturn, 1) := by decide +kernel
theorem dL_balance_0 : decode cL_balance 0 = .ok (.aload_n 2, 1) := by decide +kernel
theorem dL_balance_1 : decode cL_balance 1 = .ok (.iconst 0, 1) := by decide +kernel
theorem dL_balance_2 : decode cL_balance 2 = .ok (.aload_n 0, 1) := by decide +kernel
theorem dL_balance_3 : decode cL_balance 3 = .ok (.iload_n 1, 1) := by decide +kernel
theorem dL_balance_4 : decode cL_balance 4 = .ok (.invokevirtual 71, 3) := by decide +kernel
theorem dL_balance_7 : decode cL_balance 7 = .ok (.lastore, 1) := by decide +kernel
theorem dL_balance_8 : decode cL_balance 8 = .ok (.goto 6, 3) := by decide +kernel
theorem dL_balance_11 : decode cL_balance 11 = .ok (.astore_n 3, 1) := by decide +kernel
theorem dL_balance_12 : decode cL_balance 12 = .ok (.iconst 1, 1) := by decide +kernel
theorem dL_balance_13 : decode cL_balance 13 = .ok (.ireturn, 1) := by decide +kernel
theorem dL_balance_14 : decode cL_balance 14 = .ok (.iconst 0, 1) := by decide +kernel
theorem dL_balance_15 : decode cL_balance 15 = .ok (.ireturn, 1) := by decide +kernel
theorem dL_treeBalance_0 : decode cL_treeBalance 0 = .ok (.aload_n 2, 1) := by decide +kernel
theorem dL_treeBalance_1 : decode cL_treeBalance 1 = .ok (.iconst 0, 1) := by decide +kernel
theorem dL_treeBalance_2 : decode cL_treeBalance 2 = .ok (.aload_n 0, 1) := by decide +kernel
theorem dL_treeBalance_3 : decode cL_treeBalance 3 = .ok (.iload_n 1, 1) := by decide +kernel
theorem dL_treeBalance_4 : decode cL_treeBalance 4 = .ok (.invokevirtual 74, 3) := by decide +kernel
theorem dL_treeBalance_7 : decode cL_treeBalance 7 = .ok (.lastore, 1) := by decide +kernel
theorem dL_treeBalance_8 : decode cL_treeBalance 8 = .ok (.goto 6, 3) := by decide +kernel
theorem dL_treeBalance_11 : decode cL_treeBalance 11 = .ok (.astore_n 3, 1) := by decide +kernel
theorem dL_treeBalance_12 : decode cL_treeBalance 12 = .ok (.iconst 1, 1) := by decide +kernel
theorem dL_treeBalance_13 : decode cL_treeBalance 13 = .ok (.ireturn, 1) := by decide +kernel
theorem dL_treeBalance_14 : decode cL_treeBalance 14 = .ok (.iconst 0, 1) := by decide +kernel
theorem dL_treeBalance_15 : decode cL_treeBalance 15 = .ok (.ireturn, 1) := by decide +kernel
theorem dL_treeBalanceByParents_0 : decode cL_treeBalanceByParents 0 = .ok (.aload_n 2, 1) := by decide +kernel
theorem dL_treeBalanceByParents_1 : decode cL_treeBalanceByParents 1 = .ok (.iconst 0, 1) := by decide +kernel
theorem dL_treeBalanceByParents_2 : decode cL_treeBalanceByParents 2 = .ok (.aload_n 0, 1) := by decide +kernel
theorem dL_treeBalanceByParents_3 : decode cL_treeBalanceByParents 3 = .ok (.iload_n 1, 1) := by decide +kernel
theorem dL_treeBalanceByParents_4 : decode cL_treeBalanceByParents 4 = .ok (.invokevirtual 77, 3) := by decide +kernel
theorem dL_treeBalanceByParents_7 : decode cL_treeBalanceByParents 7 = .ok (.lastore, 1) := by decide +kernel
theorem dL_treeBalanceByParents_8 : decode cL_treeBalanceByParents 8 = .ok (.goto 6, 3) := by decide +kernel
theorem dL_treeBalanceByParents_11 : decode cL_treeBalanceByParents 11 = .ok (.astore_n 3, 1) := by decide +kernel
theorem dL_treeBalanceByParents_12 : decode cL_treeBalanceByParents 12 = .ok (.iconst 1, 1) := by decide +kernel
theorem dL_treeBalanceByParents_13 : decode cL_treeBalanceByParents 13 = .ok (.ireturn, 1) := by decide +kernel
theorem dL_treeBalanceByParents_14 : decode cL_treeBalanceByParents 14 = .ok (.iconst 0, 1) := by decide +kernel
theorem dL_treeBalanceByParents_15 : decode cL_treeBalanceByParents 15 = .ok (.ireturn, 1) := by decide +kernel
theorem dL_treeSize_0 : decode cL_treeSize 0 = .ok (.aload_n 2, 1) := by decide +kernel
theorem dL_treeSize_1 : decode cL_treeSize 1 = .ok (.iconst 0, 1) := by decide +kernel
theorem dL_treeSize_2 : decode cL_treeSize 2 = .ok (.aload_n 0, 1) := by decide +kernel
theorem dL_treeSize_3 : decode cL_treeSize 3 = .ok (.iload_n 1, 1) := by decide +kernel
theorem dL_treeSize_4 : decode cL_treeSize 4 = .ok (.invokevirtual 80, 3) := by decide +kernel
theorem dL_treeSize_7 : decode cL_treeSize 7 = .ok (.i2l, 1) := by decide +kernel
theorem dL_treeSize_8 : decode cL_treeSize 8 = .ok (.lastore, 1) := by decide +kernel
theorem dL_treeSize_9 : decode cL_treeSize 9 = .ok (.goto 6, 3) := by decide +kernel
theorem dL_treeSize_12 : decode cL_treeSize 12 = .ok (.astore_n 3, 1) := by decide +kernel
theorem dL_treeSize_13 : decode cL_treeSize 13 = .ok (.iconst 1, 1) := by decide +kernel
theorem dL_treeSize_14 : decode cL_treeSize 14 = .ok (.ireturn, 1) := by decide +kernel
theorem dL_treeSize_15 : decode cL_treeSize 15 = .ok (.iconst 0, 1) := by decide +kernel
theorem dL_treeSize_16 : decode cL_treeSize 16 = .ok (.ireturn, 1) := by decide +kernel
theorem dL_entryAt_0 : decode cL_entryAt 0 = .ok (.aload_n 2, 1) := by decide +kernel
theorem dL_entryAt_1 : decode cL_entryAt 1 = .ok (.iconst 0, 1) := by decide +kernel
theorem dL_entryAt_2 : decode cL_entryAt 2 = .ok (.aload_n 0, 1) := by decide +kernel
theorem dL_entryAt_3 : decode cL_entryAt 3 = .ok (.iload_n 1, 1) := by decide +kernel
theorem dL_entryAt_4 : decode cL_entryAt 4 = .ok (.invokevirtual 83, 3) := by decide +kernel
theorem dL_entryAt_7 : decode cL_entryAt 7 = .ok (.i2l, 1) := by decide +kernel
theorem dL_entryAt_8 : decode cL_entryAt 8 = .ok (.lastore, 1) := by decide +kernel
theorem dL_entryAt_9 : decode cL_entryAt 9 = .ok (.goto 6, 3) := by decide +kernel
theorem dL_entryAt_12 : decode cL_entryAt 12 = .ok (.astore_n 3, 1) := by decide +kernel
theorem dL_entryAt_13 : decode cL_entryAt 13 = .ok (.iconst 1, 1) := by decide +kernel
theorem dL_entryAt_14 : decode cL_entryAt 14 = .ok (.ireturn, 1) := by decide +kernel
theorem dL_entryAt_15 : decode cL_entryAt 15 = .ok (.iconst 0, 1) := by decide +kernel
theorem dL_entryAt_16 : decode cL_entryAt 16 = .ok (.ireturn, 1) := by decide +kernel
theorem dL_debitOf_0 : decode cL_debitOf 0 = .ok (.aload_n 2, 1) := by decide +kernel
theorem dL_debitOf_1 : decode cL_debitOf 1 = .ok (.iconst 0, 1) := by decide +kernel
theorem dL_debitOf_2 : decode cL_debitOf 2 = .ok (.aload_n 0, 1) := by decide +kernel
theorem dL_debitOf_3 : decode cL_debitOf 3 = .ok (.iload_n 1, 1) := by decide +kernel
theorem dL_debitOf_4 : decode cL_debitOf 4 = .ok (.invokevirtual 86, 3) := by decide +kernel
theorem dL_debitOf_7 : decode cL_debitOf 7 = .ok (.i2l, 1) := by decide +kernel
theorem dL_debitOf_8 : decode cL_debitOf 8 = .ok (.lastore, 1) := by decide +kernel
theorem dL_debitOf_9 : decode cL_debitOf 9 = .ok (.goto 6, 3) := by decide +kernel
theorem dL_debitOf_12 : decode cL_debitOf 12 = .ok (.astore_n 3, 1) := by decide +kernel
theorem dL_debitOf_13 : decode cL_debitOf 13 = .ok (.iconst 1, 1) := by decide +kernel
theorem dL_debitOf_14 : decode cL_debitOf 14 = .ok (.ireturn, 1) := by decide +kernel
theorem dL_debitOf_15 : decode cL_debitOf 15 = .ok (.iconst 0, 1) := by decide +kernel
theorem dL_debitOf_16 : decode cL_debitOf 16 = .ok (.ireturn, 1) := by decide +kernel
theorem dL_creditOf_0 : decode cL_creditOf 0 = .ok (.aload_n 2, 1) := by decide +kernel
theorem dL_creditOf_1 : decode cL_creditOf 1 = .ok (.iconst 0, 1) := by decide +kernel
theorem dL_creditOf_2 : decode cL_creditOf 2 = .ok (.aload_n 0, 1) := by decide +kernel
theorem dL_creditOf_3 : decode cL_creditOf 3 = .ok (.iload_n 1, 1) := by decide +kernel
theorem dL_creditOf_4 : decode cL_creditOf 4 = .ok (.invokevirtual 89, 3) := by decide +kernel
theorem dL_creditOf_7 : decode cL_creditOf 7 = .ok (.i2l, 1) := by decide +kernel
theorem dL_creditOf_8 : decode cL_creditOf 8 = .ok (.lastore, 1) := by decide +kernel
theorem dL_creditOf_9 : decode cL_creditOf 9 = .ok (.goto 6, 3) := by decide +kernel
theorem dL_creditOf_12 : decode cL_creditOf 12 = .ok (.astore_n 3, 1) := by decide +kernel
theorem dL_creditOf_13 : decode cL_creditOf 13 = .ok (.iconst 1, 1) := by decide +kernel
theorem dL_creditOf_14 : decode cL_creditOf 14 = .ok (.ireturn, 1) := by decide +kernel
theorem dL_creditOf_15 : decode cL_creditOf 15 = .ok (.iconst 0, 1) := by decide +kernel
theorem dL_creditOf_16 : decode cL_creditOf 16 = .ok (.ireturn, 1) := by decide +kernel
theorem dL_amountOf_0 : decode cL_amountOf 0 = .ok (.aload_n 2, 1) := by decide +kernel
theorem dL_amountOf_1 : decode cL_amountOf 1 = .ok (.iconst 0, 1) := by decide +kernel
theorem dL_amountOf_2 : decode cL_amountOf 2 = .ok (.aload_n 0, 1) := by decide +kernel
theorem dL_amountOf_3 : decode cL_amountOf 3 = .ok (.iload_n 1, 1) := by decide +kernel
theorem dL_amountOf_4 : decode cL_amountOf 4 = .ok (.invokevirtual 92, 3) := by decide +kernel
theorem dL_amountOf_7 : decode cL_amountOf 7 = .ok (.lastore, 1) := by decide +kernel
theorem dL_amountOf_8 : decode cL_amountOf 8 = .ok (.goto 6, 3) := by decide +kernel
theorem dL_amountOf_11 : decode cL_amountOf 11 = .ok (.astore_n 3, 1) := by decide +kernel
theorem dL_amountOf_12 : decode cL_amountOf 12 = .ok (.iconst 1, 1) := by decide +kernel
theorem dL_amountOf_13 : decode cL_amountOf 13 = .ok (.ireturn, 1) := by decide +kernel
theorem dL_amountOf_14 : decode cL_amountOf 14 = .ok (.iconst 0, 1) := by decide +kernel
theorem dL_amountOf_15 : decode cL_amountOf 15 = .ok (.ireturn, 1) := by decide +kernel
theorem dL_hourOf_0 : decode cL_hourOf 0 = .ok (.aload_n 2, 1) := by decide +kernel
theorem dL_hourOf_1 : decode cL_hourOf 1 = .ok (.iconst 0, 1) := by decide +kernel
theorem dL_hourOf_2 : decode cL_hourOf 2 = .ok (.aload_n 0, 1) := by decide +kernel
theorem dL_hourOf_3 : decode cL_hourOf 3 = .ok (.iload_n 1, 1) := by decide +kernel
theorem dL_hourOf_4 : decode cL_hourOf 4 = .ok (.invokevirtual 95, 3) := by decide +kernel
theorem dL_hourOf_7 : decode cL_hourOf 7 = .ok (.i2l, 1) := by decide +kernel
theorem dL_hourOf_8 : decode cL_hourOf 8 = .ok (.lastore, 1) := by decide +kernel
theorem dL_hourOf_9 : decode cL_hourOf 9 = .ok (.goto 6, 3) := by decide +kernel
theorem dL_hourOf_12 : decode cL_hourOf 12 = .ok (.astore_n 3, 1) := by decide +kernel
theorem dL_hourOf_13 : decode cL_hourOf 13 = .ok (.iconst 1, 1) := by decide +kernel
theorem dL_hourOf_14 : decode cL_hourOf 14 = .ok (.ireturn, 1) := by decide +kernel
theorem dL_hourOf_15 : decode cL_hourOf 15 = .ok (.iconst 0, 1) := by decide +kernel
theorem dL_hourOf_16 : decode cL_hourOf 16 = .ok (.ireturn, 1) := by decide +kernel
theorem dL_isReversed_0 : decode cL_isReversed 0 = .ok (.aload_n 2, 1) := by decide +kernel
theorem dL_isReversed_1 : decode cL_isReversed 1 = .ok (.iconst 0, 1) := by decide +kernel
theorem dL_isReversed_2 : decode cL_isReversed 2 = .ok (.aload_n 0, 1) := by decide +kernel
theorem dL_isReversed_3 : decode cL_isReversed 3 = .ok (.iload_n 1, 1) := by decide +kernel
theorem dL_isReversed_4 : decode cL_isReversed 4 = .ok (.invokevirtual 98, 3) := by decide +kernel
theorem dL_isReversed_7 : decode cL_isReversed 7 = .ok (.ifCond .eq 7, 3) := by decide +kernel
theorem dL_isReversed_10 : decode cL_isReversed 10 = .ok (.lconst 1, 1) := by decide +kernel
theorem dL_isReversed_11 : decode cL_isReversed 11 = .ok (.goto 4, 3) := by decide +kernel
theorem dL_isReversed_14 : decode cL_isReversed 14 = .ok (.lconst 0, 1) := by decide +kernel
theorem dL_isReversed_15 : decode cL_isReversed 15 = .ok (.lastore, 1) := by decide +kernel
theorem dL_isReversed_16 : decode cL_isReversed 16 = .ok (.goto 6, 3) := by decide +kernel
theorem dL_isReversed_19 : decode cL_isReversed 19 = .ok (.astore_n 3, 1) := by decide +kernel
theorem dL_isReversed_20 : decode cL_isReversed 20 = .ok (.iconst 1, 1) := by decide +kernel
theorem dL_isReversed_21 : decode cL_isReversed 21 = .ok (.ireturn, 1) := by decide +kernel
theorem dL_isReversed_22 : decode cL_isReversed 22 = .ok (.iconst 0, 1) := by decide +kernel
theorem dL_isReversed_23 : decode cL_isReversed 23 = .ok (.ireturn, 1) := by decide +kernel
theorem dL_hoursUntilPrompt_0 : decode cL_hoursUntilPrompt 0 = .ok (.aload_n 2, 1) := by decide +kernel
theorem dL_hoursUntilPrompt_1 : decode cL_hoursUntilPrompt 1 = .ok (.iconst 0, 1) := by decide +kernel
theorem dL_hoursUntilPrompt_2 : decode cL_hoursUntilPrompt 2 = .ok (.aload_n 0, 1) := by decide +kernel
theorem dL_hoursUntilPrompt_3 : decode cL_hoursUntilPrompt 3 = .ok (.iload_n 1, 1) := by decide +kernel
theorem dL_hoursUntilPrompt_4 : decode cL_hoursUntilPrompt 4 = .ok (.invokevirtual 102, 3) := by decide +kernel
theorem dL_hoursUntilPrompt_7 : decode cL_hoursUntilPrompt 7 = .ok (.i2l, 1) := by decide +kernel
theorem dL_hoursUntilPrompt_8 : decode cL_hoursUntilPrompt 8 = .ok (.lastore, 1) := by decide +kernel
theorem dL_hoursUntilPrompt_9 : decode cL_hoursUntilPrompt 9 = .ok (.goto 6, 3) := by decide +kernel
theorem dL_hoursUntilPrompt_12 : decode cL_hoursUntilPrompt 12 = .ok (.astore_n 3, 1) := by decide +kernel
theorem dL_hoursUntilPrompt_13 : decode cL_hoursUntilPrompt 13 = .ok (.iconst 1, 1) := by decide +kernel
theorem dL_hoursUntilPrompt_14 : decode cL_hoursUntilPrompt 14 = .ok (.ireturn, 1) := by decide +kernel
theorem dL_hoursUntilPrompt_15 : decode cL_hoursUntilPrompt 15 = .ok (.iconst 0, 1) := by decide +kernel
theorem dL_hoursUntilPrompt_16 : decode cL_hoursUntilPrompt 16 = .ok (.ireturn, 1) := by decide +kernel
theorem dL_timesLeft_0 : decode cL_timesLeft 0 = .ok (.aload_n 2, 1) := by decide +kernel
theorem dL_timesLeft_1 : decode cL_timesLeft 1 = .ok (.iconst 0, 1) := by decide +kernel
theorem dL_timesLeft_2 : decode cL_timesLeft 2 = .ok (.aload_n 0, 1) := by decide +kernel
theorem dL_timesLeft_3 : decode cL_timesLeft 3 = .ok (.iload_n 1, 1) := by decide +kernel
theorem dL_timesLeft_4 : decode cL_timesLeft 4 = .ok (.invokevirtual 105, 3) := by decide +kernel
theorem dL_timesLeft_7 : decode cL_timesLeft 7 = .ok (.i2l, 1) := by decide +kernel
theorem dL_timesLeft_8 : decode cL_timesLeft 8 = .ok (.lastore, 1) := by decide +kernel
theorem dL_timesLeft_9 : decode cL_timesLeft 9 = .ok (.goto 6, 3) := by decide +kernel
theorem dL_timesLeft_12 : decode cL_timesLeft 12 = .ok (.astore_n 3, 1) := by decide +kernel
theorem dL_timesLeft_13 : decode cL_timesLeft 13 = .ok (.iconst 1, 1) := by decide +kernel
theorem dL_timesLeft_14 : decode cL_timesLeft 14 = .ok (.ireturn, 1) := by decide +kernel
theorem dL_timesLeft_15 : decode cL_timesLeft 15 = .ok (.iconst 0, 1) := by decide +kernel
theorem dL_timesLeft_16 : decode cL_timesLeft 16 = .ok (.ireturn, 1) := by decide +kernel
theorem dL_cashIn_0 : decode cL_cashIn 0 = .ok (.aload_n 2, 1) := by decide +kernel
theorem dL_cashIn_1 : decode cL_cashIn 1 = .ok (.iconst 0, 1) := by decide +kernel
theorem dL_cashIn_2 : decode cL_cashIn 2 = .ok (.aload_n 0, 1) := by decide +kernel
theorem dL_cashIn_3 : decode cL_cashIn 3 = .ok (.iload_n 1, 1) := by decide +kernel
theorem dL_cashIn_4 : decode cL_cashIn 4 = .ok (.invokevirtual 108, 3) := by decide +kernel
theorem dL_cashIn_7 : decode cL_cashIn 7 = .ok (.lastore, 1) := by decide +kernel
theorem dL_cashIn_8 : decode cL_cashIn 8 = .ok (.goto 6, 3) := by decide +kernel
theorem dL_cashIn_11 : decode cL_cashIn 11 = .ok (.astore_n 3, 1) := by decide +kernel
theorem dL_cashIn_12 : decode cL_cashIn 12 = .ok (.iconst 1, 1) := by decide +kernel
theorem dL_cashIn_13 : decode cL_cashIn 13 = .ok (.ireturn, 1) := by decide +kernel
theorem dL_cashIn_14 : decode cL_cashIn 14 = .ok (.iconst 0, 1) := by decide +kernel
theorem dL_cashIn_15 : decode cL_cashIn 15 = .ok (.ireturn, 1) := by decide +kernel
theorem dL_costOf_0 : decode cL_costOf 0 = .ok (.aload_n 2, 1) := by decide +kernel
theorem dL_costOf_1 : decode cL_costOf 1 = .ok (.iconst 0, 1) := by decide +kernel
theorem dL_costOf_2 : decode cL_costOf 2 = .ok (.aload_n 0, 1) := by decide +kernel
theorem dL_costOf_3 : decode cL_costOf 3 = .ok (.iload_n 1, 1) := by decide +kernel
theorem dL_costOf_4 : decode cL_costOf 4 = .ok (.invokevirtual 111, 3) := by decide +kernel
theorem dL_costOf_7 : decode cL_costOf 7 = .ok (.i2l, 1) := by decide +kernel
theorem dL_costOf_8 : decode cL_costOf 8 = .ok (.lastore, 1) := by decide +kernel
theorem dL_costOf_9 : decode cL_costOf 9 = .ok (.goto 9, 3) := by decide +kernel
theorem dL_costOf_12 : decode cL_costOf 12 = .ok (.astore_n 3, 1) := by decide +kernel
theorem dL_costOf_13 : decode cL_costOf 13 = .ok (.iconst 1, 1) := by decide +kernel
theorem dL_costOf_14 : decode cL_costOf 14 = .ok (.ireturn, 1) := by decide +kernel
theorem dL_costOf_15 : decode cL_costOf 15 = .ok (.astore_n 3, 1) := by decide +kernel
theorem dL_costOf_16 : decode cL_costOf 16 = .ok (.iconst 2, 1) := by decide +kernel
theorem dL_costOf_17 : decode cL_costOf 17 = .ok (.ireturn, 1) := by decide +kernel
theorem dL_costOf_18 : decode cL_costOf 18 = .ok (.iconst 0, 1) := by decide +kernel
theorem dL_costOf_19 : decode cL_costOf 19 = .ok (.ireturn, 1) := by decide +kernel
theorem dL_costByCostumes_0 : decode cL_costByCostumes 0 = .ok (.aload_n 2, 1) := by decide +kernel
theorem dL_costByCostumes_1 : decode cL_costByCostumes 1 = .ok (.iconst 0, 1) := by decide +kernel
theorem dL_costByCostumes_2 : decode cL_costByCostumes 2 = .ok (.aload_n 0, 1) := by decide +kernel
theorem dL_costByCostumes_3 : decode cL_costByCostumes 3 = .ok (.iload_n 1, 1) := by decide +kernel
theorem dL_costByCostumes_4 : decode cL_costByCostumes 4 = .ok (.invokevirtual 114, 3) := by decide +kernel
theorem dL_costByCostumes_7 : decode cL_costByCostumes 7 = .ok (.i2l, 1) := by decide +kernel
theorem dL_costByCostumes_8 : decode cL_costByCostumes 8 = .ok (.lastore, 1) := by decide +kernel
theorem dL_costByCostumes_9 : decode cL_costByCostumes 9 = .ok (.goto 9, 3) := by decide +kernel
theorem dL_costByCostumes_12 : decode cL_costByCostumes 12 = .ok (.astore_n 3, 1) := by decide +kernel
theorem dL_costByCostumes_13 : decode cL_costByCostumes 13 = .ok (.iconst 1, 1) := by decide +kernel
theorem dL_costByCostumes_14 : decode cL_costByCostumes 14 = .ok (.ireturn, 1) := by decide +kernel
theorem dL_costByCostumes_15 : decode cL_costByCostumes 15 = .ok (.astore_n 3, 1) := by decide +kernel
theorem dL_costByCostumes_16 : decode cL_costByCostumes 16 = .ok (.iconst 2, 1) := by decide +kernel
theorem dL_costByCostumes_17 : decode cL_costByCostumes 17 = .ok (.ireturn, 1) := by decide +kernel
theorem dL_costByCostumes_18 : decode cL_costByCostumes 18 = .ok (.iconst 0, 1) := by decide +kernel
theorem dL_costByCostumes_19 : decode cL_costByCostumes 19 = .ok (.ireturn, 1) := by decide +kernel
theorem dL_meanPrice_0 : decode cL_meanPrice 0 = .ok (.aload_n 1, 1) := by decide +kernel
theorem dL_meanPrice_1 : decode cL_meanPrice 1 = .ok (.iconst 0, 1) := by decide +kernel
theorem dL_meanPrice_2 : decode cL_meanPrice 2 = .ok (.aload_n 0, 1) := by decide +kernel
theorem dL_meanPrice_3 : decode cL_meanPrice 3 = .ok (.invokevirtual 117, 3) := by decide +kernel
theorem dL_meanPrice_6 : decode cL_meanPrice 6 = .ok (.dastore, 1) := by decide +kernel
theorem dL_meanPrice_7 : decode cL_meanPrice 7 = .ok (.goto 6, 3) := by decide +kernel
theorem dL_meanPrice_10 : decode cL_meanPrice 10 = .ok (.astore_n 2, 1) := by decide +kernel
theorem dL_meanPrice_11 : decode cL_meanPrice 11 = .ok (.iconst 1, 1) := by decide +kernel
theorem dL_meanPrice_12 : decode cL_meanPrice 12 = .ok (.ireturn, 1) := by decide +kernel
theorem dL_meanPrice_13 : decode cL_meanPrice 13 = .ok (.iconst 0, 1) := by decide +kernel
theorem dL_meanPrice_14 : decode cL_meanPrice 14 = .ok (.ireturn, 1) := by decide +kernel
theorem dL_billAt_0 : decode cL_billAt 0 = .ok (.aload_n 2, 1) := by decide +kernel
theorem dL_billAt_1 : decode cL_billAt 1 = .ok (.iconst 0, 1) := by decide +kernel
theorem dL_billAt_2 : decode cL_billAt 2 = .ok (.aload_n 0, 1) := by decide +kernel
theorem dL_billAt_3 : decode cL_billAt 3 = .ok (.iload_n 1, 1) := by decide +kernel
theorem dL_billAt_4 : decode cL_billAt 4 = .ok (.invokevirtual 123, 3) := by decide +kernel
theorem dL_billAt_7 : decode cL_billAt 7 = .ok (.i2l, 1) := by decide +kernel
theorem dL_billAt_8 : decode cL_billAt 8 = .ok (.lastore, 1) := by decide +kernel
theorem dL_billAt_9 : decode cL_billAt 9 = .ok (.goto 6, 3) := by decide +kernel
theorem dL_billAt_12 : decode cL_billAt 12 = .ok (.astore_n 3, 1) := by decide +kernel
theorem dL_billAt_13 : decode cL_billAt 13 = .ok (.iconst 1, 1) := by decide +kernel
theorem dL_billAt_14 : decode cL_billAt 14 = .ok (.ireturn, 1) := by decide +kernel
theorem dL_billAt_15 : decode cL_billAt 15 = .ok (.iconst 0, 1) := by decide +kernel
theorem dL_billAt_16 : decode cL_billAt 16 = .ok (.ireturn, 1) := by decide +kernel
theorem dL_openAmount_0 : decode cL_openAmount 0 = .ok (.aload_n 2, 1) := by decide +kernel
theorem dL_openAmount_1 : decode cL_openAmount 1 = .ok (.iconst 0, 1) := by decide +kernel
theorem dL_openAmount_2 : decode cL_openAmount 2 = .ok (.aload_n 0, 1) := by decide +kernel
theorem dL_openAmount_3 : decode cL_openAmount 3 = .ok (.iload_n 1, 1) := by decide +kernel
theorem dL_openAmount_4 : decode cL_openAmount 4 = .ok (.invokevirtual 126, 3) := by decide +kernel
theorem dL_openAmount_7 : decode cL_openAmount 7 = .ok (.i2l, 1) := by decide +kernel
theorem dL_openAmount_8 : decode cL_openAmount 8 = .ok (.lastore, 1) := by decide +kernel
theorem dL_openAmount_9 : decode cL_openAmount 9 = .ok (.goto 6, 3) := by decide +kernel
theorem dL_openAmount_12 : decode cL_openAmount 12 = .ok (.astore_n 3, 1) := by decide +kernel
theorem dL_openAmount_13 : decode cL_openAmount 13 = .ok (.iconst 1, 1) := by decide +kernel
theorem dL_openAmount_14 : decode cL_openAmount 14 = .ok (.ireturn, 1) := by decide +kernel
theorem dL_openAmount_15 : decode cL_openAmount 15 = .ok (.iconst 0, 1) := by decide +kernel
theorem dL_openAmount_16 : decode cL_openAmount 16 = .ok (.ireturn, 1) := by decide +kernel
theorem dL_isMatched_0 : decode cL_isMatched 0 = .ok (.aload_n 2, 1) := by decide +kernel
theorem dL_isMatched_1 : decode cL_isMatched 1 = .ok (.iconst 0, 1) := by decide +kernel
theorem dL_isMatched_2 : decode cL_isMatched 2 = .ok (.aload_n 0, 1) := by decide +kernel
theorem dL_isMatched_3 : decode cL_isMatched 3 = .ok (.iload_n 1, 1) := by decide +kernel
theorem dL_isMatched_4 : decode cL_isMatched 4 = .ok (.invokevirtual 129, 3) := by decide +kernel
theorem dL_isMatched_7 : decode cL_isMatched 7 = .ok (.ifCond .eq 7, 3) := by decide +kernel
theorem dL_isMatched_10 : decode cL_isMatched 10 = .ok (.lconst 1, 1) := by decide +kernel
theorem dL_isMatched_11 : decode cL_isMatched 11 = .ok (.goto 4, 3) := by decide +kernel
theorem dL_isMatched_14 : decode cL_isMatched 14 = .ok (.lconst 0, 1) := by decide +kernel
theorem dL_isMatched_15 : decode cL_isMatched 15 = .ok (.lastore, 1) := by decide +kernel
theorem dL_isMatched_16 : decode cL_isMatched 16 = .ok (.goto 6, 3) := by decide +kernel
theorem dL_isMatched_19 : decode cL_isMatched 19 = .ok (.astore_n 3, 1) := by decide +kernel
theorem dL_isMatched_20 : decode cL_isMatched 20 = .ok (.iconst 1, 1) := by decide +kernel
theorem dL_isMatched_21 : decode cL_isMatched 21 = .ok (.ireturn, 1) := by decide +kernel
theorem dL_isMatched_22 : decode cL_isMatched 22 = .ok (.iconst 0, 1) := by decide +kernel
theorem dL_isMatched_23 : decode cL_isMatched 23 = .ok (.ireturn, 1) := by decide +kernel
theorem dL_isMatchedBySets_0 : decode cL_isMatchedBySets 0 = .ok (.aload_n 2, 1) := by decide +kernel
theorem dL_isMatchedBySets_1 : decode cL_isMatchedBySets 1 = .ok (.iconst 0, 1) := by decide +kernel
theorem dL_isMatchedBySets_2 : decode cL_isMatchedBySets 2 = .ok (.aload_n 0, 1) := by decide +kernel
theorem dL_isMatchedBySets_3 : decode cL_isMatchedBySets 3 = .ok (.iload_n 1, 1) := by decide +kernel
theorem dL_isMatchedBySets_4 : decode cL_isMatchedBySets 4 = .ok (.invokevirtual 132, 3) := by decide +kernel
theorem dL_isMatchedBySets_7 : decode cL_isMatchedBySets 7 = .ok (.ifCond .eq 7, 3) := by decide +kernel
theorem dL_isMatchedBySets_10 : decode cL_isMatchedBySets 10 = .ok (.lconst 1, 1) := by decide +kernel
theorem dL_isMatchedBySets_11 : decode cL_isMatchedBySets 11 = .ok (.goto 4, 3) := by decide +kernel
theorem dL_isMatchedBySets_14 : decode cL_isMatchedBySets 14 = .ok (.lconst 0, 1) := by decide +kernel
theorem dL_isMatchedBySets_15 : decode cL_isMatchedBySets 15 = .ok (.lastore, 1) := by decide +kernel
theorem dL_isMatchedBySets_16 : decode cL_isMatchedBySets 16 = .ok (.goto 6, 3) := by decide +kernel
theorem dL_isMatchedBySets_19 : decode cL_isMatchedBySets 19 = .ok (.astore_n 3, 1) := by decide +kernel
theorem dL_isMatchedBySets_20 : decode cL_isMatchedBySets 20 = .ok (.iconst 1, 1) := by decide +kernel
theorem dL_isMatchedBySets_21 : decode cL_isMatchedBySets 21 = .ok (.ireturn, 1) := by decide +kernel
theorem dL_isMatchedBySets_22 : decode cL_isMatchedBySets 22 = .ok (.iconst 0, 1) := by decide +kernel
theorem dL_isMatchedBySets_23 : decode cL_isMatchedBySets 23 = .ok (.ireturn, 1) := by decide +kernel
theorem dL_matchSize_0 : decode cL_matchSize 0 = .ok (.aload_n 2, 1) := by decide +kernel
theorem dL_matchSize_1 : decode cL_matchSize 1 = .ok (.iconst 0, 1) := by decide +kernel
theorem dL_matchSize_2 : decode cL_matchSize 2 = .ok (.aload_n 0, 1) := by decide +kernel
theorem dL_matchSize_3 : decode cL_matchSize 3 = .ok (.iload_n 1, 1) := by decide +kernel
theorem dL_matchSize_4 : decode cL_matchSize 4 = .ok (.invokevirtual 135, 3) := by decide +kernel
theorem dL_matchSize_7 : decode cL_matchSize 7 = .ok (.i2l, 1) := by decide +kernel
theorem dL_matchSize_8 : decode cL_matchSize 8 = .ok (.lastore, 1) := by decide +kernel
theorem dL_matchSize_9 : decode cL_matchSize 9 = .ok (.goto 9, 3) := by decide +kernel
theorem dL_matchSize_12 : decode cL_matchSize 12 = .ok (.astore_n 3, 1) := by decide +kernel
theorem dL_matchSize_13 : decode cL_matchSize 13 = .ok (.iconst 1, 1) := by decide +kernel
theorem dL_matchSize_14 : decode cL_matchSize 14 = .ok (.ireturn, 1) := by decide +kernel
theorem dL_matchSize_15 : decode cL_matchSize 15 = .ok (.astore_n 3, 1) := by decide +kernel
theorem dL_matchSize_16 : decode cL_matchSize 16 = .ok (.iconst 2, 1) := by decide +kernel
theorem dL_matchSize_17 : decode cL_matchSize 17 = .ok (.ireturn, 1) := by decide +kernel
theorem dL_matchSize_18 : decode cL_matchSize 18 = .ok (.iconst 0, 1) := by decide +kernel
theorem dL_matchSize_19 : decode cL_matchSize 19 = .ok (.ireturn, 1) := by decide +kernel
theorem dL_isInMatch_0 : decode cL_isInMatch 0 = .ok (.aload_n 3, 1) := by decide +kernel
theorem dL_isInMatch_1 : decode cL_isInMatch 1 = .ok (.iconst 0, 1) := by decide +kernel
theorem dL_isInMatch_2 : decode cL_isInMatch 2 = .ok (.aload_n 0, 1) := by decide +kernel
theorem dL_isInMatch_3 : decode cL_isInMatch 3 = .ok (.iload_n 1, 1) := by decide +kernel
theorem dL_isInMatch_4 : decode cL_isInMatch 4 = .ok (.iload_n 2, 1) := by decide +kernel
theorem dL_isInMatch_5 : decode cL_isInMatch 5 = .ok (.invokevirtual 138, 3) := by decide +kernel
theorem dL_isInMatch_8 : decode cL_isInMatch 8 = .ok (.ifCond .eq 7, 3) := by decide +kernel
theorem dL_isInMatch_11 : decode cL_isInMatch 11 = .ok (.lconst 1, 1) := by decide +kernel
theorem dL_isInMatch_12 : decode cL_isInMatch 12 = .ok (.goto 4, 3) := by decide +kernel
theorem dL_isInMatch_15 : decode cL_isInMatch 15 = .ok (.lconst 0, 1) := by decide +kernel
theorem dL_isInMatch_16 : decode cL_isInMatch 16 = .ok (.lastore, 1) := by decide +kernel
theorem dL_isInMatch_17 : decode cL_isInMatch 17 = .ok (.goto 15, 3) := by decide +kernel
theorem dL_isInMatch_20 : decode cL_isInMatch 20 = .ok (.astore 4, 2) := by decide +kernel
theorem dL_isInMatch_22 : decode cL_isInMatch 22 = .ok (.iconst 1, 1) := by decide +kernel
theorem dL_isInMatch_23 : decode cL_isInMatch 23 = .ok (.ireturn, 1) := by decide +kernel
theorem dL_isInMatch_24 : decode cL_isInMatch 24 = .ok (.astore 4, 2) := by decide +kernel
theorem dL_isInMatch_26 : decode cL_isInMatch 26 = .ok (.iconst 2, 1) := by decide +kernel
theorem dL_isInMatch_27 : decode cL_isInMatch 27 = .ok (.ireturn, 1) := by decide +kernel
theorem dL_isInMatch_28 : decode cL_isInMatch 28 = .ok (.astore 4, 2) := by decide +kernel
theorem dL_isInMatch_30 : decode cL_isInMatch 30 = .ok (.iconst 3, 1) := by decide +kernel
theorem dL_isInMatch_31 : decode cL_isInMatch 31 = .ok (.ireturn, 1) := by decide +kernel
theorem dL_isInMatch_32 : decode cL_isInMatch 32 = .ok (.iconst 0, 1) := by decide +kernel
theorem dL_isInMatch_33 : decode cL_isInMatch 33 = .ok (.ireturn, 1) := by decide +kernel
theorem dL_accountByBalance_0 : decode cL_accountByBalance 0 = .ok (.aload_n 2, 1) := by decide +kernel
theorem dL_accountByBalance_1 : decode cL_accountByBalance 1 = .ok (.iconst 0, 1) := by decide +kernel
theorem dL_accountByBalance_2 : decode cL_accountByBalance 2 = .ok (.aload_n 0, 1) := by decide +kernel
theorem dL_accountByBalance_3 : decode cL_accountByBalance 3 = .ok (.iload_n 1, 1) := by decide +kernel
theorem dL_accountByBalance_4 : decode cL_accountByBalance 4 = .ok (.invokevirtual 142, 3) := by decide +kernel
theorem dL_accountByBalance_7 : decode cL_accountByBalance 7 = .ok (.i2l, 1) := by decide +kernel
theorem dL_accountByBalance_8 : decode cL_accountByBalance 8 = .ok (.lastore, 1) := by decide +kernel
theorem dL_accountByBalance_9 : decode cL_accountByBalance 9 = .ok (.goto 6, 3) := by decide +kernel
theorem dL_accountByBalance_12 : decode cL_accountByBalance 12 = .ok (.astore_n 3, 1) := by decide +kernel
theorem dL_accountByBalance_13 : decode cL_accountByBalance 13 = .ok (.iconst 1, 1) := by decide +kernel
theorem dL_accountByBalance_14 : decode cL_accountByBalance 14 = .ok (.ireturn, 1) := by decide +kernel
theorem dL_accountByBalance_15 : decode cL_accountByBalance 15 = .ok (.iconst 0, 1) := by decide +kernel
theorem dL_accountByBalance_16 : decode cL_accountByBalance 16 = .ok (.ireturn, 1) := by decide +kernel
theorem dL_claimShare_0 : decode cL_claimShare 0 = .ok (.aload_n 1, 1) := by decide +kernel
theorem dL_claimShare_1 : decode cL_claimShare 1 = .ok (.iconst 0, 1) := by decide +kernel
theorem dL_claimShare_2 : decode cL_claimShare 2 = .ok (.aload_n 0, 1) := by decide +kernel
theorem dL_claimShare_3 : decode cL_claimShare 3 = .ok (.invokevirtual 145, 3) := by decide +kernel
theorem dL_claimShare_6 : decode cL_claimShare 6 = .ok (.f2d, 1) := by decide +kernel
theorem dL_claimShare_7 : decode cL_claimShare 7 = .ok (.dastore, 1) := by decide +kernel
theorem dL_claimShare_8 : decode cL_claimShare 8 = .ok (.goto 6, 3) := by decide +kernel
theorem dL_claimShare_11 : decode cL_claimShare 11 = .ok (.astore_n 2, 1) := by decide +kernel
theorem dL_claimShare_12 : decode cL_claimShare 12 = .ok (.iconst 1, 1) := by decide +kernel
theorem dL_claimShare_13 : decode cL_claimShare 13 = .ok (.ireturn, 1) := by decide +kernel
theorem dL_claimShare_14 : decode cL_claimShare 14 = .ok (.iconst 0, 1) := by decide +kernel
theorem dL_claimShare_15 : decode cL_claimShare 15 = .ok (.ireturn, 1) := by decide +kernel
theorem dL_feed_0 : decode cL_feed 0 = .ok (.aload_n 2, 1) := by decide +kernel
theorem dL_feed_1 : decode cL_feed 1 = .ok (.iconst 0, 1) := by decide +kernel
theorem dL_feed_2 : decode cL_feed 2 = .ok (.aload_n 0, 1) := by decide +kernel
theorem dL_feed_3 : decode cL_feed 3 = .ok (.iload_n 1, 1) := by decide +kernel
theorem dL_feed_4 : decode cL_feed 4 = .ok (.invokevirtual 149, 3) := by decide +kernel
theorem dL_feed_7 : decode cL_feed 7 = .ok (.i2l, 1) := by decide +kernel
theorem dL_feed_8 : decode cL_feed 8 = .ok (.lastore, 1) := by decide +kernel
theorem dL_feed_9 : decode cL_feed 9 = .ok (.goto 6, 3) := by decide +kernel
theorem dL_feed_12 : decode cL_feed 12 = .ok (.astore_n 3, 1) := by decide +kernel
theorem dL_feed_13 : decode cL_feed 13 = .ok (.iconst 1, 1) := by decide +kernel
theorem dL_feed_14 : decode cL_feed 14 = .ok (.ireturn, 1) := by decide +kernel
theorem dL_feed_15 : decode cL_feed 15 = .ok (.iconst 0, 1) := by decide +kernel
theorem dL_feed_16 : decode cL_feed 16 = .ok (.ireturn, 1) := by decide +kernel
theorem dL_runCommands_0 : decode cL_runCommands 0 = .ok (.aload_n 1, 1) := by decide +kernel
theorem dL_runCommands_1 : decode cL_runCommands 1 = .ok (.iconst 0, 1) := by decide +kernel
theorem dL_runCommands_2 : decode cL_runCommands 2 = .ok (.aload_n 0, 1) := by decide +kernel
theorem dL_runCommands_3 : decode cL_runCommands 3 = .ok (.invokevirtual 152, 3) := by decide +kernel
theorem dL_runCommands_6 : decode cL_runCommands 6 = .ok (.i2l, 1) := by decide +kernel
theorem dL_runCommands_7 : decode cL_runCommands 7 = .ok (.lastore, 1) := by decide +kernel
theorem dL_runCommands_8 : decode cL_runCommands 8 = .ok (.goto 9, 3) := by decide +kernel
theorem dL_runCommands_11 : decode cL_runCommands 11 = .ok (.astore_n 2, 1) := by decide +kernel
theorem dL_runCommands_12 : decode cL_runCommands 12 = .ok (.iconst 1, 1) := by decide +kernel
theorem dL_runCommands_13 : decode cL_runCommands 13 = .ok (.ireturn, 1) := by decide +kernel
theorem dL_runCommands_14 : decode cL_runCommands 14 = .ok (.astore_n 2, 1) := by decide +kernel
theorem dL_runCommands_15 : decode cL_runCommands 15 = .ok (.iconst 2, 1) := by decide +kernel
theorem dL_runCommands_16 : decode cL_runCommands 16 = .ok (.ireturn, 1) := by decide +kernel
theorem dL_runCommands_17 : decode cL_runCommands 17 = .ok (.iconst 0, 1) := by decide +kernel
theorem dL_runCommands_18 : decode cL_runCommands 18 = .ok (.ireturn, 1) := by decide +kernel
theorem dL_errorPosition_0 : decode cL_errorPosition 0 = .ok (.aload_n 1, 1) := by decide +kernel
theorem dL_errorPosition_1 : decode cL_errorPosition 1 = .ok (.iconst 0, 1) := by decide +kernel
theorem dL_errorPosition_2 : decode cL_errorPosition 2 = .ok (.aload_n 0, 1) := by decide +kernel
theorem dL_errorPosition_3 : decode cL_errorPosition 3 = .ok (.invokevirtual 156, 3) := by decide +kernel
theorem dL_errorPosition_6 : decode cL_errorPosition 6 = .ok (.i2l, 1) := by decide +kernel
theorem dL_errorPosition_7 : decode cL_errorPosition 7 = .ok (.lastore, 1) := by decide +kernel
theorem dL_errorPosition_8 : decode cL_errorPosition 8 = .ok (.goto 6, 3) := by decide +kernel
theorem dL_errorPosition_11 : decode cL_errorPosition 11 = .ok (.astore_n 2, 1) := by decide +kernel
theorem dL_errorPosition_12 : decode cL_errorPosition 12 = .ok (.iconst 1, 1) := by decide +kernel
theorem dL_errorPosition_13 : decode cL_errorPosition 13 = .ok (.ireturn, 1) := by decide +kernel
theorem dL_errorPosition_14 : decode cL_errorPosition 14 = .ok (.iconst 0, 1) := by decide +kernel
theorem dL_errorPosition_15 : decode cL_errorPosition 15 = .ok (.ireturn, 1) := by decide +kernel
theorem dL_failedCommand_0 : decode cL_failedCommand 0 = .ok (.aload_n 1, 1) := by decide +kernel
theorem dL_failedCommand_1 : decode cL_failedCommand 1 = .ok (.iconst 0, 1) := by decide +kernel
theorem dL_failedCommand_2 : decode cL_failedCommand 2 = .ok (.aload_n 0, 1) := by decide +kernel
theorem dL_failedCommand_3 : decode cL_failedCommand 3 = .ok (.invokevirtual 159, 3) := by decide +kernel
theorem dL_failedCommand_6 : decode cL_failedCommand 6 = .ok (.i2l, 1) := by decide +kernel
theorem dL_failedCommand_7 : decode cL_failedCommand 7 = .ok (.lastore, 1) := by decide +kernel
theorem dL_failedCommand_8 : decode cL_failedCommand 8 = .ok (.goto 6, 3) := by decide +kernel
theorem dL_failedCommand_11 : decode cL_failedCommand 11 = .ok (.astore_n 2, 1) := by decide +kernel
theorem dL_failedCommand_12 : decode cL_failedCommand 12 = .ok (.iconst 1, 1) := by decide +kernel
theorem dL_failedCommand_13 : decode cL_failedCommand 13 = .ok (.ireturn, 1) := by decide +kernel
theorem dL_failedCommand_14 : decode cL_failedCommand 14 = .ok (.iconst 0, 1) := by decide +kernel
theorem dL_failedCommand_15 : decode cL_failedCommand 15 = .ok (.ireturn, 1) := by decide +kernel
theorem dL_writeEntry_0 : decode cL_writeEntry 0 = .ok (.aload_n 2, 1) := by decide +kernel
theorem dL_writeEntry_1 : decode cL_writeEntry 1 = .ok (.iconst 0, 1) := by decide +kernel
theorem dL_writeEntry_2 : decode cL_writeEntry 2 = .ok (.aload_n 0, 1) := by decide +kernel
theorem dL_writeEntry_3 : decode cL_writeEntry 3 = .ok (.iload_n 1, 1) := by decide +kernel
theorem dL_writeEntry_4 : decode cL_writeEntry 4 = .ok (.invokevirtual 162, 3) := by decide +kernel
theorem dL_writeEntry_7 : decode cL_writeEntry 7 = .ok (.i2l, 1) := by decide +kernel
theorem dL_writeEntry_8 : decode cL_writeEntry 8 = .ok (.lastore, 1) := by decide +kernel
theorem dL_writeEntry_9 : decode cL_writeEntry 9 = .ok (.goto 6, 3) := by decide +kernel
theorem dL_writeEntry_12 : decode cL_writeEntry 12 = .ok (.astore_n 3, 1) := by decide +kernel
theorem dL_writeEntry_13 : decode cL_writeEntry 13 = .ok (.iconst 1, 1) := by decide +kernel
theorem dL_writeEntry_14 : decode cL_writeEntry 14 = .ok (.ireturn, 1) := by decide +kernel
theorem dL_writeEntry_15 : decode cL_writeEntry 15 = .ok (.iconst 0, 1) := by decide +kernel
theorem dL_writeEntry_16 : decode cL_writeEntry 16 = .ok (.ireturn, 1) := by decide +kernel
theorem dL_outputChar_0 : decode cL_outputChar 0 = .ok (.aload_n 2, 1) := by decide +kernel
theorem dL_outputChar_1 : decode cL_outputChar 1 = .ok (.iconst 0, 1) := by decide +kernel
theorem dL_outputChar_2 : decode cL_outputChar 2 = .ok (.aload_n 0, 1) := by decide +kernel
theorem dL_outputChar_3 : decode cL_outputChar 3 = .ok (.iload_n 1, 1) := by decide +kernel
theorem dL_outputChar_4 : decode cL_outputChar 4 = .ok (.invokevirtual 165, 3) := by decide +kernel
theorem dL_outputChar_7 : decode cL_outputChar 7 = .ok (.i2l, 1) := by decide +kernel
theorem dL_outputChar_8 : decode cL_outputChar 8 = .ok (.lastore, 1) := by decide +kernel
theorem dL_outputChar_9 : decode cL_outputChar 9 = .ok (.goto 6, 3) := by decide +kernel
theorem dL_outputChar_12 : decode cL_outputChar 12 = .ok (.astore_n 3, 1) := by decide +kernel
theorem dL_outputChar_13 : decode cL_outputChar 13 = .ok (.iconst 1, 1) := by decide +kernel
theorem dL_outputChar_14 : decode cL_outputChar 14 = .ok (.ireturn, 1) := by decide +kernel
theorem dL_outputChar_15 : decode cL_outputChar 15 = .ok (.iconst 0, 1) := by decide +kernel
theorem dL_outputChar_16 : decode cL_outputChar 16 = .ok (.ireturn, 1) := by decide +kernel
theorem dL_undo_0 : decode cL_undo 0 = .ok (.aload_n 1, 1) := by decide +kernel
theorem dL_undo_1 : decode cL_undo 1 = .ok (.iconst 0, 1) := by decide +kernel
theorem dL_undo_2 : decode cL_undo 2 = .ok (.aload_n 0, 1) := by decide +kernel
theorem dL_undo_3 : decode cL_undo 3 = .ok (.invokevirtual 168, 3) := by decide +kernel
theorem dL_undo_6 : decode cL_undo 6 = .ok (.i2l, 1) := by decide +kernel
theorem dL_undo_7 : decode cL_undo 7 = .ok (.lastore, 1) := by decide +kernel
theorem dL_undo_8 : decode cL_undo 8 = .ok (.goto 6, 3) := by decide +kernel
theorem dL_undo_11 : decode cL_undo 11 = .ok (.astore_n 2, 1) := by decide +kernel
theorem dL_undo_12 : decode cL_undo 12 = .ok (.iconst 1, 1) := by decide +kernel
theorem dL_undo_13 : decode cL_undo 13 = .ok (.ireturn, 1) := by decide +kernel
theorem dL_undo_14 : decode cL_undo 14 = .ok (.iconst 0, 1) := by decide +kernel
theorem dL_undo_15 : decode cL_undo 15 = .ok (.ireturn, 1) := by decide +kernel
theorem dL_restore_0 : decode cL_restore 0 = .ok (.aload_n 1, 1) := by decide +kernel
theorem dL_restore_1 : decode cL_restore 1 = .ok (.iconst 0, 1) := by decide +kernel
theorem dL_restore_2 : decode cL_restore 2 = .ok (.aload_n 0, 1) := by decide +kernel
theorem dL_restore_3 : decode cL_restore 3 = .ok (.invokevirtual 171, 3) := by decide +kernel
theorem dL_restore_6 : decode cL_restore 6 = .ok (.i2l, 1) := by decide +kernel
theorem dL_restore_7 : decode cL_restore 7 = .ok (.lastore, 1) := by decide +kernel
theorem dL_restore_8 : decode cL_restore 8 = .ok (.goto 6, 3) := by decide +kernel
theorem dL_restore_11 : decode cL_restore 11 = .ok (.astore_n 2, 1) := by decide +kernel
theorem dL_restore_12 : decode cL_restore 12 = .ok (.iconst 1, 1) := by decide +kernel
theorem dL_restore_13 : decode cL_restore 13 = .ok (.ireturn, 1) := by decide +kernel
theorem dL_restore_14 : decode cL_restore 14 = .ok (.iconst 0, 1) := by decide +kernel
theorem dL_restore_15 : decode cL_restore 15 = .ok (.ireturn, 1) := by decide +kernel
theorem dL_law_0 : decode cL_law 0 = .ok (.new 8, 3) := by decide +kernel
theorem dL_law_3 : decode cL_law 3 = .ok (.dup, 1) := by decide +kernel
theorem dL_law_4 : decode cL_law 4 = .ok (.invokespecial 174, 3) := by decide +kernel
theorem dL_law_7 : decode cL_law 7 = .ok (.astore_n 1, 1) := by decide +kernel
theorem dL_law_8 : decode cL_law 8 = .ok (.new 175, 3) := by decide +kernel
theorem dL_law_11 : decode cL_law 11 = .ok (.dup, 1) := by decide +kernel
theorem dL_law_12 : decode cL_law 12 = .ok (.invokespecial 177, 3) := by decide +kernel
theorem dL_law_15 : decode cL_law 15 = .ok (.astore_n 2, 1) := by decide +kernel
theorem dL_law_16 : decode cL_law 16 = .ok (.iconst 1, 1) := by decide +kernel
theorem dL_law_17 : decode cL_law 17 = .ok (.newarray .long, 2) := by decide +kernel
theorem dL_law_19 : decode cL_law 19 = .ok (.astore_n 3, 1) := by decide +kernel
theorem dL_law_20 : decode cL_law 20 = .ok (.iconst 1, 1) := by decide +kernel
theorem dL_law_21 : decode cL_law 21 = .ok (.newarray .double, 2) := by decide +kernel
theorem dL_law_23 : decode cL_law 23 = .ok (.astore 4, 2) := by decide +kernel
theorem dL_law_25 : decode cL_law 25 = .ok (.iconst 0, 1) := by decide +kernel
theorem dL_law_26 : decode cL_law 26 = .ok (.istore 5, 2) := by decide +kernel
theorem dL_law_28 : decode cL_law 28 = .ok (.iload 5, 2) := by decide +kernel
theorem dL_law_30 : decode cL_law 30 = .ok (.aload_n 0, 1) := by decide +kernel
theorem dL_law_31 : decode cL_law 31 = .ok (.arraylength, 1) := by decide +kernel
theorem dL_law_32 : decode cL_law 32 = .ok (.bipush 6, 2) := by decide +kernel
theorem dL_law_34 : decode cL_law 34 = .ok (.isub, 1) := by decide +kernel
theorem dL_law_35 : decode cL_law 35 = .ok (.if_icmp .gt 3218, 3) := by decide +kernel
theorem dL_law_38 : decode cL_law 38 = .ok (.aload_n 0, 1) := by decide +kernel
theorem dL_law_39 : decode cL_law 39 = .ok (.iload 5, 2) := by decide +kernel
theorem dL_law_41 : decode cL_law 41 = .ok (.iaload, 1) := by decide +kernel
theorem dL_law_42 : decode cL_law 42 = .ok (.bipush 63, 2) := by decide +kernel
theorem dL_law_44 : decode cL_law 44 = .ok (.iand, 1) := by decide +kernel
theorem dL_law_45 : decode cL_law 45 = .ok (.tableswitch 3202 0 62 #[267, 325, 381, 461, 517, 621, 677, 733, 801, 869, 925, 981, 994, 1007, 1020, 1076, 1132, 1187, 1242, 1297, 1352, 1407, 1463, 1477, 1491, 1505, 1518, 1574, 1630, 1686, 1741, 1797, 1860, 1873, 1929, 1985, 2040, 2053, 2066, 2122, 2178, 2243, 2256, 2312, 2368, 2381, 2444, 2507, 2563, 2638, 2694, 2707, 2773, 2786, 2844, 2888, 2932, 2976, 3032, 3088, 3101, 3145, 3158], 267) := by decide +kernel
theorem dL_law_312 : decode cL_law 312 = .ok (.aload_n 1, 1) := by decide +kernel
theorem dL_law_313 : decode cL_law 313 = .ok (.aload_n 0, 1) := by decide +kernel
theorem dL_law_314 : decode cL_law 314 = .ok (.iload 5, 2) := by decide +kernel
theorem dL_law_316 : decode cL_law 316 = .ok (.iconst 1, 1) := by decide +kernel
theorem dL_law_317 : decode cL_law 317 = .ok (.iadd, 1) := by decide +kernel
theorem dL_law_318 : decode cL_law 318 = .ok (.iaload, 1) := by decide +kernel
theorem dL_law_319 : decode cL_law 319 = .ok (.i2c, 1) := by decide +kernel
theorem dL_law_320 : decode cL_law 320 = .ok (.aload_n 3, 1) := by decide +kernel
theorem dL_law_321 : decode cL_law 321 = .ok (.invokestatic 178, 3) := by decide +kernel
theorem dL_law_324 : decode cL_law 324 = .ok (.istore 6, 2) := by decide +kernel
theorem dL_law_326 : decode cL_law 326 = .ok (.aload_n 2, 1) := by decide +kernel
theorem dL_law_327 : decode cL_law 327 = .ok (.aload_n 0, 1) := by decide +kernel
theorem dL_law_328 : decode cL_law 328 = .ok (.iload 5, 2) := by decide +kernel
theorem dL_law_330 : decode cL_law 330 = .ok (.iconst 1, 1) := by decide +kernel
theorem dL_law_331 : decode cL_law 331 = .ok (.iadd, 1) := by decide +kernel
theorem dL_law_332 : decode cL_law 332 = .ok (.iaload, 1) := by decide +kernel
theorem dL_law_333 : decode cL_law 333 = .ok (.i2c, 1) := by decide +kernel
theorem dL_law_334 : decode cL_law 334 = .ok (.invokevirtual 183, 3) := by decide +kernel
theorem dL_law_337 : decode cL_law 337 = .ok (.istore 7, 2) := by decide +kernel
theorem dL_law_339 : decode cL_law 339 = .ok (.aload_n 2, 1) := by decide +kernel
theorem dL_law_340 : decode cL_law 340 = .ok (.invokevirtual 184, 3) := by decide +kernel
theorem dL_law_343 : decode cL_law 343 = .ok (.iload 6, 2) := by decide +kernel
theorem dL_law_345 : decode cL_law 345 = .ok (.if_icmp .eq 5, 3) := by decide +kernel
theorem dL_law_348 : decode cL_law 348 = .ok (.iconst 0, 1) := by decide +kernel
theorem dL_law_349 : decode cL_law 349 = .ok (.ireturn, 1) := by decide +kernel
theorem dL_law_350 : decode cL_law 350 = .ok (.iload 6, 2) := by decide +kernel
theorem dL_law_352 : decode cL_law 352 = .ok (.ifCond .ne 15, 3) := by decide +kernel
theorem dL_law_355 : decode cL_law 355 = .ok (.aload_n 3, 1) := by decide +kernel
theorem dL_law_356 : decode cL_law 356 = .ok (.iconst 0, 1) := by decide +kernel
theorem dL_law_357 : decode cL_law 357 = .ok (.laload, 1) := by decide +kernel
theorem dL_law_358 : decode cL_law 358 = .ok (.iload 7, 2) := by decide +kernel
theorem dL_law_360 : decode cL_law 360 = .ok (.i2l, 1) := by decide +kernel
theorem dL_law_361 : decode cL_law 361 = .ok (.lcmp, 1) := by decide +kernel
theorem dL_law_362 : decode cL_law 362 = .ok (.ifCond .eq 5, 3) := by decide +kernel
theorem dL_law_365 : decode cL_law 365 = .ok (.iconst 0, 1) := by decide +kernel
theorem dL_law_366 : decode cL_law 366 = .ok (.ireturn, 1) := by decide +kernel
theorem dL_law_367 : decode cL_law 367 = .ok (.goto 2880, 3) := by decide +kernel
theorem dL_law_370 : decode cL_law 370 = .ok (.aload_n 1, 1) := by decide +kernel
theorem dL_law_371 : decode cL_law 371 = .ok (.aload_n 0, 1) := by decide +kernel
theorem dL_law_372 : decode cL_law 372 = .ok (.iload 5, 2) := by decide +kernel
theorem dL_law_374 : decode cL_law 374 = .ok (.iconst 1, 1) := by decide +kernel
theorem dL_law_375 : decode cL_law 375 = .ok (.iadd, 1) := by decide +kernel
theorem dL_law_376 : decode cL_law 376 = .ok (.iaload, 1) := by decide +kernel
theorem dL_law_377 : decode cL_law 377 = .ok (.aload_n 3, 1) := by decide +kernel
theorem dL_law_378 : decode cL_law 378 = .ok (.invokestatic 187, 3) := by decide +kernel
theorem dL_law_381 : decode cL_law 381 = .ok (.istore 6, 2) := by decide +kernel
theorem dL_law_383 : decode cL_law 383 = .ok (.aload_n 2, 1) := by decide +kernel
theorem dL_law_384 : decode cL_law 384 = .ok (.aload_n 0, 1) := by decide +kernel
theorem dL_law_385 : decode cL_law 385 = .ok (.iload 5, 2) := by decide +kernel
theorem dL_law_387 : decode cL_law 387 = .ok (.iconst 1, 1) := by decide +kernel
theorem dL_law_388 : decode cL_law 388 = .ok (.iadd, 1) := by decide +kernel
theorem dL_law_389 : decode cL_law 389 = .ok (.iaload, 1) := by decide +kernel
theorem dL_law_390 : decode cL_law 390 = .ok (.invokevirtual 190, 3) := by decide +kernel
theorem dL_law_393 : decode cL_law 393 = .ok (.istore 7, 2) := by decide +kernel
theorem dL_law_395 : decode cL_law 395 = .ok (.aload_n 2, 1) := by decide +kernel
theorem dL_law_396 : decode cL_law 396 = .ok (.invokevirtual 184, 3) := by decide +kernel
theorem dL_law_399 : decode cL_law 399 = .ok (.iload 6, 2) := by decide +kernel
theorem dL_law_401 : decode cL_law 401 = .ok (.if_icmp .eq 5, 3) := by decide +kernel
theorem dL_law_404 : decode cL_law 404 = .ok (.iconst 0, 1) := by decide +kernel
theorem dL_law_405 : decode cL_law 405 = .ok (.ireturn, 1) := by decide +kernel
theorem dL_law_406 : decode cL_law 406 = .ok (.iload 6, 2) := by decide +kernel
theorem dL_law_408 : decode cL_law 408 = .ok (.ifCond .ne 15, 3) := by decide +kernel
theorem dL_law_411 : decode cL_law 411 = .ok (.aload_n 3, 1) := by decide +kernel
theorem dL_law_412 : decode cL_law 412 = .ok (.iconst 0, 1) := by decide +kernel
theorem dL_law_413 : decode cL_law 413 = .ok (.laload, 1) := by decide +kernel
theorem dL_law_414 : decode cL_law 414 = .ok (.iload 7, 2) := by decide +kernel
theorem dL_law_416 : decode cL_law 416 = .ok (.i2l, 1) := by decide +kernel
theorem dL_law_417 : decode cL_law 417 = .ok (.lcmp, 1) := by decide +kernel
theorem dL_law_418 : decode cL_law 418 = .ok (.ifCond .eq 5, 3) := by decide +kernel
theorem dL_law_421 : decode cL_law 421 = .ok (.iconst 0, 1) := by decide +kernel
theorem dL_law_422 : decode cL_law 422 = .ok (.ireturn, 1) := by decide +kernel
theorem dL_law_423 : decode cL_law 423 = .ok (.goto 2824, 3) := by decide +kernel
theorem dL_law_426 : decode cL_law 426 = .ok (.aload_n 1, 1) := by decide +kernel
theorem dL_law_427 : decode cL_law 427 = .ok (.aload_n 0, 1) := by decide +kernel
theorem dL_law_428 : decode cL_law 428 = .ok (.iload 5, 2) := by decide +kernel
theorem dL_law_430 : decode cL_law 430 = .ok (.iconst 1, 1) := by decide +kernel
theorem dL_law_431 : decode cL_law 431 = .ok (.iadd, 1) := by decide +kernel
theorem dL_law_432 : decode cL_law 432 = .ok (.iaload, 1) := by decide +kernel
theorem dL_law_433 : decode cL_law 433 = .ok (.aload_n 0, 1) := by decide +kernel
theorem dL_law_434 : decode cL_law 434 = .ok (.iload 5, 2) := by decide +kernel
theorem dL_law_436 : decode cL_law 436 = .ok (.iconst 2, 1) := by decide +kernel
theorem dL_law_437 : decode cL_law 437 = .ok (.iadd, 1) := by decide +kernel
theorem dL_law_438 : decode cL_law 438 = .ok (.iaload, 1) := by decide +kernel
theorem dL_law_439 : decode cL_law 439 = .ok (.aload_n 0, 1) := by decide +kernel
theorem dL_law_440 : decode cL_law 440 = .ok (.iload 5, 2) := by decide +kernel
theorem dL_law_442 : decode cL_law 442 = .ok (.iconst 3, 1) := by decide +kernel
theorem dL_law_443 : decode cL_law 443 = .ok (.iadd, 1) := by decide +kernel
theorem dL_law_444 : decode cL_law 444 = .ok (.iaload, 1) := by decide +kernel
theorem dL_law_445 : decode cL_law 445 = .ok (.aload_n 3, 1) := by decide +kernel
theorem dL_law_446 : decode cL_law 446 = .ok (.invokestatic 191, 3) := by decide +kernel
theorem dL_law_449 : decode cL_law 449 = .ok (.istore 6, 2) := by decide +kernel
theorem dL_law_451 : decode cL_law 451 = .ok (.aload_n 2, 1) := by decide +kernel
theorem dL_law_452 : decode cL_law 452 = .ok (.aload_n 0, 1) := by decide +kernel
theorem dL_law_453 : decode cL_law 453 = .ok (.iload 5, 2) := by decide +kernel
theorem dL_law_455 : decode cL_law 455 = .ok (.iconst 1, 1) := by decide +kernel
theorem dL_law_456 : decode cL_law 456 = .ok (.iadd, 1) := by decide +kernel
theorem dL_law_457 : decode cL_law 457 = .ok (.iaload, 1) := by decide +kernel
theorem dL_law_458 : decode cL_law 458 = .ok (.aload_n 0, 1) := by decide +kernel
theorem dL_law_459 : decode cL_law 459 = .ok (.iload 5, 2) := by decide +kernel
theorem dL_law_461 : decode cL_law 461 = .ok (.iconst 2, 1) := by decide +kernel
theorem dL_law_462 : decode cL_law 462 = .ok (.iadd, 1) := by decide +kernel
theorem dL_law_463 : decode cL_law 463 = .ok (.iaload, 1) := by decide +kernel
theorem dL_law_464 : decode cL_law 464 = .ok (.aload_n 0, 1) := by decide +kernel
theorem dL_law_465 : decode cL_law 465 = .ok (.iload 5, 2) := by decide +kernel
theorem dL_law_467 : decode cL_law 467 = .ok (.iconst 3, 1) := by decide +kernel
theorem dL_law_468 : decode cL_law 468 = .ok (.iadd, 1) := by decide +kernel
theorem dL_law_469 : decode cL_law 469 = .ok (.iaload, 1) := by decide +kernel
theorem dL_law_470 : decode cL_law 470 = .ok (.invokevirtual 194, 3) := by decide +kernel
theorem dL_law_473 : decode cL_law 473 = .ok (.istore 7, 2) := by decide +kernel
theorem dL_law_475 : decode cL_law 475 = .ok (.aload_n 2, 1) := by decide +kernel
theorem dL_law_476 : decode cL_law 476 = .ok (.invokevirtual 184, 3) := by decide +kernel
theorem dL_law_479 : decode cL_law 479 = .ok (.iload 6, 2) := by decide +kernel
theorem dL_law_481 : decode cL_law 481 = .ok (.if_icmp .eq 5, 3) := by decide +kernel
theorem dL_law_484 : decode cL_law 484 = .ok (.iconst 0, 1) := by decide +kernel
theorem dL_law_485 : decode cL_law 485 = .ok (.ireturn, 1) := by decide +kernel
theorem dL_law_486 : decode cL_law 486 = .ok (.iload 6, 2) := by decide +kernel
theorem dL_law_488 : decode cL_law 488 = .ok (.ifCond .ne 15, 3) := by decide +kernel
theorem dL_law_491 : decode cL_law 491 = .ok (.aload_n 3, 1) := by decide +kernel
theorem dL_law_492 : decode cL_law 492 = .ok (.iconst 0, 1) := by decide +kernel
theorem dL_law_493 : decode cL_law 493 = .ok (.laload, 1) := by decide +kernel
theorem dL_law_494 : decode cL_law 494 = .ok (.iload 7, 2) := by decide +kernel
theorem dL_law_496 : decode cL_law 496 = .ok (.i2l, 1) := by decide +kernel
theorem dL_law_497 : decode cL_law 497 = .ok (.lcmp, 1) := by decide +kernel
theorem dL_law_498 : decode cL_law 498 = .ok (.ifCond .eq 5, 3) := by decide +kernel
theorem dL_law_501 : decode cL_law 501 = .ok (.iconst 0, 1) := by decide +kernel
theorem dL_law_502 : decode cL_law 502 = .ok (.ireturn, 1) := by decide +kernel
theorem dL_law_503 : decode cL_law 503 = .ok (.goto 2744, 3) := by decide +kernel
theorem dL_law_506 : decode cL_law 506 = .ok (.aload_n 1, 1) := by decide +kernel
theorem dL_law_507 : decode cL_law 507 = .ok (.aload_n 0, 1) := by decide +kernel
theorem dL_law_508 : decode cL_law 508 = .ok (.iload 5, 2) := by decide +kernel
theorem dL_law_510 : decode cL_law 510 = .ok (.iconst 1, 1) := by decide +kernel
theorem dL_law_511 : decode cL_law 511 = .ok (.iadd, 1) := by decide +kernel
theorem dL_law_512 : decode cL_law 512 = .ok (.iaload, 1) := by decide +kernel
theorem dL_law_513 : decode cL_law 513 = .ok (.aload_n 3, 1) := by decide +kernel
theorem dL_law_514 : decode cL_law 514 = .ok (.invokestatic 195, 3) := by decide +kernel
theorem dL_law_517 : decode cL_law 517 = .ok (.istore 6, 2) := by decide +kernel
theorem dL_law_519 : decode cL_law 519 = .ok (.aload_n 2, 1) := by decide +kernel
theorem dL_law_520 : decode cL_law 520 = .ok (.aload_n 0, 1) := by decide +kernel
theorem dL_law_521 : decode cL_law 521 = .ok (.iload 5, 2) := by decide +kernel
theorem dL_law_523 : decode cL_law 523 = .ok (.iconst 1, 1) := by decide +kernel
theorem dL_law_524 : decode cL_law 524 = .ok (.iadd, 1) := by decide +kernel
theorem dL_law_525 : decode cL_law 525 = .ok (.iaload, 1) := by decide +kernel
theorem dL_law_526 : decode cL_law 526 = .ok (.invokevirtual 197, 3) := by decide +kernel
theorem dL_law_529 : decode cL_law 529 = .ok (.istore 7, 2) := by decide +kernel
theorem dL_law_531 : decode cL_law 531 = .ok (.aload_n 2, 1) := by decide +kernel
theorem dL_law_532 : decode cL_law 532 = .ok (.invokevirtual 184, 3) := by decide +kernel
theorem dL_law_535 : decode cL_law 535 = .ok (.iload 6, 2) := by decide +kernel
theorem dL_law_537 : decode cL_law 537 = .ok (.if_icmp .eq 5, 3) := by decide +kernel
theorem dL_law_540 : decode cL_law 540 = .ok (.iconst 0, 1) := by decide +kernel
theorem dL_law_541 : decode cL_law 541 = .ok (.ireturn, 1) := by decide +kernel
theorem dL_law_542 : decode cL_law 542 = .ok (.iload 6, 2) := by decide +kernel
theorem dL_law_544 : decode cL_law 544 = .ok (.ifCond .ne 15, 3) := by decide +kernel
theorem dL_law_547 : decode cL_law 547 = .ok (.aload_n 3, 1) := by decide +kernel
theorem dL_law_548 : decode cL_law 548 = .ok (.iconst 0, 1) := by decide +kernel
theorem dL_law_549 : decode cL_law 549 = .ok (.laload, 1) := by decide +kernel
theorem dL_law_550 : decode cL_law 550 = .ok (.iload 7, 2) := by decide +kernel
theorem dL_law_552 : decode cL_law 552 = .ok (.i2l, 1) := by decide +kernel
theorem dL_law_553 : decode cL_law 553 = .ok (.lcmp, 1) := by decide +kernel
theorem dL_law_554 : decode cL_law 554 = .ok (.ifCond .eq 5, 3) := by decide +kernel
theorem dL_law_557 : decode cL_law 557 = .ok (.iconst 0, 1) := by decide +kernel
theorem dL_law_558 : decode cL_law 558 = .ok (.ireturn, 1) := by decide +kernel
theorem dL_law_559 : decode cL_law 559 = .ok (.goto 2688, 3) := by decide +kernel
theorem dL_law_562 : decode cL_law 562 = .ok (.aload_n 1, 1) := by decide +kernel
theorem dL_law_563 : decode cL_law 563 = .ok (.aload_n 0, 1) := by decide +kernel
theorem dL_law_564 : decode cL_law 564 = .ok (.iload 5, 2) := by decide +kernel
theorem dL_law_566 : decode cL_law 566 = .ok (.iconst 1, 1) := by decide +kernel
theorem dL_law_567 : decode cL_law 567 = .ok (.iadd, 1) := by decide +kernel
theorem dL_law_568 : decode cL_law 568 = .ok (.iaload, 1) := by decide +kernel
theorem dL_law_569 : decode cL_law 569 = .ok (.aload_n 0, 1) := by decide +kernel
theorem dL_law_570 : decode cL_law 570 = .ok (.iload 5, 2) := by decide +kernel
theorem dL_law_572 : decode cL_law 572 = .ok (.iconst 2, 1) := by decide +kernel
theorem dL_law_573 : decode cL_law 573 = .ok (.iadd, 1) := by decide +kernel
theorem dL_law_574 : decode cL_law 574 = .ok (.iaload, 1) := by decide +kernel
theorem dL_law_575 : decode cL_law 575 = .ok (.aload_n 0, 1) := by decide +kernel
theorem dL_law_576 : decode cL_law 576 = .ok (.iload 5, 2) := by decide +kernel
theorem dL_law_578 : decode cL_law 578 = .ok (.iconst 3, 1) := by decide +kernel
theorem dL_law_579 : decode cL_law 579 = .ok (.iadd, 1) := by decide +kernel
theorem dL_law_580 : decode cL_law 580 = .ok (.iaload, 1) := by decide +kernel
theorem dL_law_581 : decode cL_law 581 = .ok (.aload_n 0, 1) := by decide +kernel
theorem dL_law_582 : decode cL_law 582 = .ok (.iload 5, 2) := by decide +kernel
theorem dL_law_584 : decode cL_law 584 = .ok (.iconst 4, 1) := by decide +kernel
theorem dL_law_585 : decode cL_law 585 = .ok (.iadd, 1) := by decide +kernel
theorem dL_law_586 : decode cL_law 586 = .ok (.iaload, 1) := by decide +kernel
theorem dL_law_587 : decode cL_law 587 = .ok (.aload_n 0, 1) := by decide +kernel
theorem dL_law_588 : decode cL_law 588 = .ok (.iload 5, 2) := by decide +kernel
theorem dL_law_590 : decode cL_law 590 = .ok (.iconst 5, 1) := by decide +kernel
theorem dL_law_591 : decode cL_law 591 = .ok (.iadd, 1) := by decide +kernel
theorem dL_law_592 : decode cL_law 592 = .ok (.iaload, 1) := by decide +kernel
theorem dL_law_593 : decode cL_law 593 = .ok (.aload_n 3, 1) := by decide +kernel
theorem dL_law_594 : decode cL_law 594 = .ok (.invokestatic 198, 3) := by decide +kernel
theorem dL_law_597 : decode cL_law 597 = .ok (.istore 6, 2) := by decide +kernel
theorem dL_law_599 : decode cL_law 599 = .ok (.aload_n 2, 1) := by decide +kernel
theorem dL_law_600 : decode cL_law 600 = .ok (.aload_n 0, 1) := by decide +kernel
theorem dL_law_601 : decode cL_law 601 = .ok (.iload 5, 2) := by decide +kernel
theorem dL_law_603 : decode cL_law 603 = .ok (.iconst 1, 1) := by decide +kernel
theorem dL_law_604 : decode cL_law 604 = .ok (.iadd, 1) := by decide +kernel
theorem dL_law_605 : decode cL_law 605 = .ok (.iaload, 1) := by decide +kernel
theorem dL_law_606 : decode cL_law 606 = .ok (.aload_n 0, 1) := by decide +kernel
theorem dL_law_607 : decode cL_law 607 = .ok (.iload 5, 2) := by decide +kernel
theorem dL_law_609 : decode cL_law 609 = .ok (.iconst 2, 1) := by decide +kernel
theorem dL_law_610 : decode cL_law 610 = .ok (.iadd, 1) := by decide +kernel
theorem dL_law_611 : decode cL_law 611 = .ok (.iaload, 1) := by decide +kernel
theorem dL_law_612 : decode cL_law 612 = .ok (.aload_n 0, 1) := by decide +kernel
theorem dL_law_613 : decode cL_law 613 = .ok (.iload 5, 2) := by decide +kernel
theorem dL_law_615 : decode cL_law 615 = .ok (.iconst 3, 1) := by decide +kernel
theorem dL_law_616 : decode cL_law 616 = .ok (.iadd, 1) := by decide +kernel
theorem dL_law_617 : decode cL_law 617 = .ok (.iaload, 1) := by decide +kernel
theorem dL_law_618 : decode cL_law 618 = .ok (.aload_n 0, 1) := by decide +kernel
theorem dL_law_619 : decode cL_law 619 = .ok (.iload 5, 2) := by decide +kernel
theorem dL_law_621 : decode cL_law 621 = .ok (.iconst 4, 1) := by decide +kernel
theorem dL_law_622 : decode cL_law 622 = .ok (.iadd, 1) := by decide +kernel
theorem dL_law_623 : decode cL_law 623 = .ok (.iaload, 1) := by decide +kernel
theorem dL_law_624 : decode cL_law 624 = .ok (.aload_n 0, 1) := by decide +kernel
theorem dL_law_625 : decode cL_law 625 = .ok (.iload 5, 2) := by decide +kernel
theorem dL_law_627 : decode cL_law 627 = .ok (.iconst 5, 1) := by decide +kernel
theorem dL_law_628 : decode cL_law 628 = .ok (.iadd, 1) := by decide +kernel
theorem dL_law_629 : decode cL_law 629 = .ok (.iaload, 1) := by decide +kernel
theorem dL_law_630 : decode cL_law 630 = .ok (.invokevirtual 201, 3) := by decide +kernel
theorem dL_law_633 : decode cL_law 633 = .ok (.istore 7, 2) := by decide +kernel
theorem dL_law_635 : decode cL_law 635 = .ok (.aload_n 2, 1) := by decide +kernel
theorem dL_law_636 : decode cL_law 636 = .ok (.invokevirtual 184, 3) := by decide +kernel
theorem dL_law_639 : decode cL_law 639 = .ok (.iload 6, 2) := by decide +kernel
theorem dL_law_641 : decode cL_law 641 = .ok (.if_icmp .eq 5, 3) := by decide +kernel
theorem dL_law_644 : decode cL_law 644 = .ok (.iconst 0, 1) := by decide +kernel
theorem dL_law_645 : decode cL_law 645 = .ok (.ireturn, 1) := by decide +kernel
theorem dL_law_646 : decode cL_law 646 = .ok (.iload 6, 2) := by decide +kernel
theorem dL_law_648 : decode cL_law 648 = .ok (.ifCond .ne 15, 3) := by decide +kernel
theorem dL_law_651 : decode cL_law 651 = .ok (.aload_n 3, 1) := by decide +kernel
theorem dL_law_652 : decode cL_law 652 = .ok (.iconst 0, 1) := by decide +kernel
theorem dL_law_653 : decode cL_law 653 = .ok (.laload, 1) := by decide +kernel
theorem dL_law_654 : decode cL_law 654 = .ok (.iload 7, 2) := by decide +kernel
theorem dL_law_656 : decode cL_law 656 = .ok (.i2l, 1) := by decide +kernel
theorem dL_law_657 : decode cL_law 657 = .ok (.lcmp, 1) := by decide +kernel
theorem dL_law_658 : decode cL_law 658 = .ok (.ifCond .eq 5, 3) := by decide +kernel
theorem dL_law_661 : decode cL_law 661 = .ok (.iconst 0, 1) := by decide +kernel
theorem dL_law_662 : decode cL_law 662 = .ok (.ireturn, 1) := by decide +kernel
theorem dL_law_663 : decode cL_law 663 = .ok (.goto 2584, 3) := by decide +kernel
theorem dL_law_666 : decode cL_law 666 = .ok (.aload_n 1, 1) := by decide +kernel
theorem dL_law_667 : decode cL_law 667 = .ok (.aload_n 0, 1) := by decide +kernel
theorem dL_law_668 : decode cL_law 668 = .ok (.iload 5, 2) := by decide +kernel
theorem dL_law_670 : decode cL_law 670 = .ok (.iconst 1, 1) := by decide +kernel
theorem dL_law_671 : decode cL_law 671 = .ok (.iadd, 1) := by decide +kernel
theorem dL_law_672 : decode cL_law 672 = .ok (.iaload, 1) := by decide +kernel
theorem dL_law_673 : decode cL_law 673 = .ok (.aload_n 3, 1) := by decide +kernel
theorem dL_law_674 : decode cL_law 674 = .ok (.invokestatic 202, 3) := by decide +kernel
theorem dL_law_677 : decode cL_law 677 = .ok (.istore 6, 2) := by decide +kernel
theorem dL_law_679 : decode cL_law 679 = .ok (.aload_n 2, 1) := by decide +kernel
theorem dL_law_680 : decode cL_law 680 = .ok (.aload_n 0, 1) := by decide +kernel
theorem dL_law_681 : decode cL_law 681 = .ok (.iload 5, 2) := by decide +kernel
theorem dL_law_683 : decode cL_law 683 = .ok (.iconst 1, 1) := by decide +kernel
theorem dL_law_684 : decode cL_law 684 = .ok (.iadd, 1) := by decide +kernel
theorem dL_law_685 : decode cL_law 685 = .ok (.iaload, 1) := by decide +kernel
theorem dL_law_686 : decode cL_law 686 = .ok (.invokevirtual 204, 3) := by decide +kernel
theorem dL_law_689 : decode cL_law 689 = .ok (.istore 7, 2) := by decide +kernel
theorem dL_law_691 : decode cL_law 691 = .ok (.aload_n 2, 1) := by decide +kernel
theorem dL_law_692 : decode cL_law 692 = .ok (.invokevirtual 184, 3) := by decide +kernel
theorem dL_law_695 : decode cL_law 695 = .ok (.iload 6, 2) := by decide +kernel
theorem dL_law_697 : decode cL_law 697 = .ok (.if_icmp .eq 5, 3) := by decide +kernel
theorem dL_law_700 : decode cL_law 700 = .ok (.iconst 0, 1) := by decide +kernel
theorem dL_law_701 : decode cL_law 701 = .ok (.ireturn, 1) := by decide +kernel
theorem dL_law_702 : decode cL_law 702 = .ok (.iload 6, 2) := by decide +kernel
theorem dL_law_704 : decode cL_law 704 = .ok (.ifCond .ne 15, 3) := by decide +kernel
theorem dL_law_707 : decode cL_law 707 = .ok (.aload_n 3, 1) := by decide +kernel
theorem dL_law_708 : decode cL_law 708 = .ok (.iconst 0, 1) := by decide +kernel
theorem dL_law_709 : decode cL_law 709 = .ok (.laload, 1) := by decide +kernel
theorem dL_law_710 : decode cL_law 710 = .ok (.iload 7, 2) := by decide +kernel
theorem dL_law_712 : decode cL_law 712 = .ok (.i2l, 1) := by decide +kernel
theorem dL_law_713 : decode cL_law 713 = .ok (.lcmp, 1) := by decide +kernel
theorem dL_law_714 : decode cL_law 714 = .ok (.ifCond .eq 5, 3) := by decide +kernel
theorem dL_law_717 : decode cL_law 717 = .ok (.iconst 0, 1) := by decide +kernel
theorem dL_law_718 : decode cL_law 718 = .ok (.ireturn, 1) := by decide +kernel
theorem dL_law_719 : decode cL_law 719 = .ok (.goto 2528, 3) := by decide +kernel
theorem dL_law_722 : decode cL_law 722 = .ok (.aload_n 1, 1) := by decide +kernel
theorem dL_law_723 : decode cL_law 723 = .ok (.aload_n 0, 1) := by decide +kernel
theorem dL_law_724 : decode cL_law 724 = .ok (.iload 5, 2) := by decide +kernel
theorem dL_law_726 : decode cL_law 726 = .ok (.iconst 1, 1) := by decide +kernel
theorem dL_law_727 : decode cL_law 727 = .ok (.iadd, 1) := by decide +kernel
theorem dL_law_728 : decode cL_law 728 = .ok (.iaload, 1) := by decide +kernel
theorem dL_law_729 : decode cL_law 729 = .ok (.aload_n 3, 1) := by decide +kernel
theorem dL_law_730 : decode cL_law 730 = .ok (.invokestatic 205, 3) := by decide +kernel
theorem dL_law_733 : decode cL_law 733 = .ok (.istore 6, 2) := by decide +kernel
theorem dL_law_735 : decode cL_law 735 = .ok (.aload_n 2, 1) := by decide +kernel
theorem dL_law_736 : decode cL_law 736 = .ok (.aload_n 0, 1) := by decide +kernel
theorem dL_law_737 : decode cL_law 737 = .ok (.iload 5, 2) := by decide +kernel
theorem dL_law_739 : decode cL_law 739 = .ok (.iconst 1, 1) := by decide +kernel
theorem dL_law_740 : decode cL_law 740 = .ok (.iadd, 1) := by decide +kernel
theorem dL_law_741 : decode cL_law 741 = .ok (.iaload, 1) := by decide +kernel
theorem dL_law_742 : decode cL_law 742 = .ok (.invokevirtual 207, 3) := by decide +kernel
theorem dL_law_745 : decode cL_law 745 = .ok (.istore 7, 2) := by decide +kernel
theorem dL_law_747 : decode cL_law 747 = .ok (.aload_n 2, 1) := by decide +kernel
theorem dL_law_748 : decode cL_law 748 = .ok (.invokevirtual 184, 3) := by decide +kernel
theorem dL_law_751 : decode cL_law 751 = .ok (.iload 6, 2) := by decide +kernel
theorem dL_law_753 : decode cL_law 753 = .ok (.if_icmp .eq 5, 3) := by decide +kernel
theorem dL_law_756 : decode cL_law 756 = .ok (.iconst 0, 1) := by decide +kernel
theorem dL_law_757 : decode cL_law 757 = .ok (.ireturn, 1) := by decide +kernel
theorem dL_law_758 : decode cL_law 758 = .ok (.iload 6, 2) := by decide +kernel
theorem dL_law_760 : decode cL_law 760 = .ok (.ifCond .ne 15, 3) := by decide +kernel
theorem dL_law_763 : decode cL_law 763 = .ok (.aload_n 3, 1) := by decide +kernel
theorem dL_law_764 : decode cL_law 764 = .ok (.iconst 0, 1) := by decide +kernel
theorem dL_law_765 : decode cL_law 765 = .ok (.laload, 1) := by decide +kernel
theorem dL_law_766 : decode cL_law 766 = .ok (.iload 7, 2) := by decide +kernel
theorem dL_law_768 : decode cL_law 768 = .ok (.i2l, 1) := by decide +kernel
theorem dL_law_769 : decode cL_law 769 = .ok (.lcmp, 1) := by decide +kernel
theorem dL_law_770 : decode cL_law 770 = .ok (.ifCond .eq 5, 3) := by decide +kernel
theorem dL_law_773 : decode cL_law 773 = .ok (.iconst 0, 1) := by decide +kernel
theorem dL_law_774 : decode cL_law 774 = .ok (.ireturn, 1) := by decide +kernel
theorem dL_law_775 : decode cL_law 775 = .ok (.goto 2472, 3) := by decide +kernel
theorem dL_law_778 : decode cL_law 778 = .ok (.aload_n 1, 1) := by decide +kernel
theorem dL_law_779 : decode cL_law 779 = .ok (.aload_n 0, 1) := by decide +kernel
theorem dL_law_780 : decode cL_law 780 = .ok (.iload 5, 2) := by decide +kernel
theorem dL_law_782 : decode cL_law 782 = .ok (.iconst 1, 1) := by decide +kernel
theorem dL_law_783 : decode cL_law 783 = .ok (.iadd, 1) := by decide +kernel
theorem dL_law_784 : decode cL_law 784 = .ok (.iaload, 1) := by decide +kernel
theorem dL_law_785 : decode cL_law 785 = .ok (.aload_n 0, 1) := by decide +kernel
theorem dL_law_786 : decode cL_law 786 = .ok (.iload 5, 2) := by decide +kernel
theorem dL_law_788 : decode cL_law 788 = .ok (.iconst 2, 1) := by decide +kernel
theorem dL_law_789 : decode cL_law 789 = .ok (.iadd, 1) := by decide +kernel
theorem dL_law_790 : decode cL_law 790 = .ok (.iaload, 1) := by decide +kernel
theorem dL_law_791 : decode cL_law 791 = .ok (.aload_n 3, 1) := by decide +kernel
theorem dL_law_792 : decode cL_law 792 = .ok (.invokestatic 208, 3) := by decide +kernel
theorem dL_law_795 : decode cL_law 795 = .ok (.istore 6, 2) := by decide +kernel
theorem dL_law_797 : decode cL_law 797 = .ok (.aload_n 2, 1) := by decide +kernel
theorem dL_law_798 : decode cL_law 798 = .ok (.aload_n 0, 1) := by decide +kernel
theorem dL_law_799 : decode cL_law 799 = .ok (.iload 5, 2) := by decide +kernel
theorem dL_law_801 : decode cL_law 801 = .ok (.iconst 1, 1) := by decide +kernel
theorem dL_law_802 : decode cL_law 802 = .ok (.iadd, 1) := by decide +kernel
theorem dL_law_803 : decode cL_law 803 = .ok (.iaload, 1) := by decide +kernel
theorem dL_law_804 : decode cL_law 804 = .ok (.aload_n 0, 1) := by decide +kernel
theorem dL_law_805 : decode cL_law 805 = .ok (.iload 5, 2) := by decide +kernel
theorem dL_law_807 : decode cL_law 807 = .ok (.iconst 2, 1) := by decide +kernel
theorem dL_law_808 : decode cL_law 808 = .ok (.iadd, 1) := by decide +kernel
theorem dL_law_809 : decode cL_law 809 = .ok (.iaload, 1) := by decide +kernel
theorem dL_law_810 : decode cL_law 810 = .ok (.invokevirtual 211, 3) := by decide +kernel
theorem dL_law_813 : decode cL_law 813 = .ok (.istore 7, 2) := by decide +kernel
theorem dL_law_815 : decode cL_law 815 = .ok (.aload_n 2, 1) := by decide +kernel
theorem dL_law_816 : decode cL_law 816 = .ok (.invokevirtual 184, 3) := by decide +kernel
theorem dL_law_819 : decode cL_law 819 = .ok (.iload 6, 2) := by decide +kernel
theorem dL_law_821 : decode cL_law 821 = .ok (.if_icmp .eq 5, 3) := by decide +kernel
theorem dL_law_824 : decode cL_law 824 = .ok (.iconst 0, 1) := by decide +kernel
theorem dL_law_825 : decode cL_law 825 = .ok (.ireturn, 1) := by decide +kernel
theorem dL_law_826 : decode cL_law 826 = .ok (.iload 6, 2) := by decide +kernel
theorem dL_law_828 : decode cL_law 828 = .ok (.ifCond .ne 15, 3) := by decide +kernel
theorem dL_law_831 : decode cL_law 831 = .ok (.aload_n 3, 1) := by decide +kernel
theorem dL_law_832 : decode cL_law 832 = .ok (.iconst 0, 1) := by decide +kernel
theorem dL_law_833 : decode cL_law 833 = .ok (.laload, 1) := by decide +kernel
theorem dL_law_834 : decode cL_law 834 = .ok (.iload 7, 2) := by decide +kernel
theorem dL_law_836 : decode cL_law 836 = .ok (.i2l, 1) := by decide +kernel
theorem dL_law_837 : decode cL_law 837 = .ok (.lcmp, 1) := by decide +kernel
theorem dL_law_838 : decode cL_law 838 = .ok (.ifCond .eq 5, 3) := by decide +kernel
theorem dL_law_841 : decode cL_law 841 = .ok (.iconst 0, 1) := by decide +kernel
theorem dL_law_842 : decode cL_law 842 = .ok (.ireturn, 1) := by decide +kernel
theorem dL_law_843 : decode cL_law 843 = .ok (.goto 2404, 3) := by decide +kernel
theorem dL_law_846 : decode cL_law 846 = .ok (.aload_n 1, 1) := by decide +kernel
theorem dL_law_847 : decode cL_law 847 = .ok (.aload_n 0, 1) := by decide +kernel
theorem dL_law_848 : decode cL_law 848 = .ok (.iload 5, 2) := by decide +kernel
theorem dL_law_850 : decode cL_law 850 = .ok (.iconst 1, 1) := by decide +kernel
theorem dL_law_851 : decode cL_law 851 = .ok (.iadd, 1) := by decide +kernel
theorem dL_law_852 : decode cL_law 852 = .ok (.iaload, 1) := by decide +kernel
theorem dL_law_853 : decode cL_law 853 = .ok (.aload_n 0, 1) := by decide +kernel
theorem dL_law_854 : decode cL_law 854 = .ok (.iload 5, 2) := by decide +kernel
theorem dL_law_856 : decode cL_law 856 = .ok (.iconst 2, 1) := by decide +kernel
theorem dL_law_857 : decode cL_law 857 = .ok (.iadd, 1) := by decide +kernel
theorem dL_law_858 : decode cL_law 858 = .ok (.iaload, 1) := by decide +kernel
theorem dL_law_859 : decode cL_law 859 = .ok (.aload_n 3, 1) := by decide +kernel
theorem dL_law_860 : decode cL_law 860 = .ok (.invokestatic 212, 3) := by decide +kernel
theorem dL_law_863 : decode cL_law 863 = .ok (.istore 6, 2) := by decide +kernel
theorem dL_law_865 : decode cL_law 865 = .ok (.aload_n 2, 1) := by decide +kernel
theorem dL_law_866 : decode cL_law 866 = .ok (.aload_n 0, 1) := by decide +kernel
theorem dL_law_867 : decode cL_law 867 = .ok (.iload 5, 2) := by decide +kernel
theorem dL_law_869 : decode cL_law 869 = .ok (.iconst 1, 1) := by decide +kernel
theorem dL_law_870 : decode cL_law 870 = .ok (.iadd, 1) := by decide +kernel
theorem dL_law_871 : decode cL_law 871 = .ok (.iaload, 1) := by decide +kernel
theorem dL_law_872 : decode cL_law 872 = .ok (.aload_n 0, 1) := by decide +kernel
theorem dL_law_873 : decode cL_law 873 = .ok (.iload 5, 2) := by decide +kernel
theorem dL_law_875 : decode cL_law 875 = .ok (.iconst 2, 1) := by decide +kernel
theorem dL_law_876 : decode cL_law 876 = .ok (.iadd, 1) := by decide +kernel
theorem dL_law_877 : decode cL_law 877 = .ok (.iaload, 1) := by decide +kernel
theorem dL_law_878 : decode cL_law 878 = .ok (.invokevirtual 214, 3) := by decide +kernel
theorem dL_law_881 : decode cL_law 881 = .ok (.istore 7, 2) := by decide +kernel
theorem dL_law_883 : decode cL_law 883 = .ok (.aload_n 2, 1) := by decide +kernel
theorem dL_law_884 : decode cL_law 884 = .ok (.invokevirtual 184, 3) := by decide +kernel
theorem dL_law_887 : decode cL_law 887 = .ok (.iload 6, 2) := by decide +kernel
theorem dL_law_889 : decode cL_law 889 = .ok (.if_icmp .eq 5, 3) := by decide +kernel
theorem dL_law_892 : decode cL_law 892 = .ok (.iconst 0, 1) := by decide +kernel
theorem dL_law_893 : decode cL_law 893 = .ok (.ireturn, 1) := by decide +kernel
theorem dL_law_894 : decode cL_law 894 = .ok (.iload 6, 2) := by decide +kernel
theorem dL_law_896 : decode cL_law 896 = .ok (.ifCond .ne 15, 3) := by decide +kernel
theorem dL_law_899 : decode cL_law 899 = .ok (.aload_n 3, 1) := by decide +kernel
theorem dL_law_900 : decode cL_law 900 = .ok (.iconst 0, 1) := by decide +kernel
theorem dL_law_901 : decode cL_law 901 = .ok (.laload, 1) := by decide +kernel
theorem dL_law_902 : decode cL_law 902 = .ok (.iload 7, 2) := by decide +kernel
theorem dL_law_904 : decode cL_law 904 = .ok (.i2l, 1) := by decide +kernel
theorem dL_law_905 : decode cL_law 905 = .ok (.lcmp, 1) := by decide +kernel
theorem dL_law_906 : decode cL_law 906 = .ok (.ifCond .eq 5, 3) := by decide +kernel
theorem dL_law_909 : decode cL_law 909 = .ok (.iconst 0, 1) := by decide +kernel
theorem dL_law_910 : decode cL_law 910 = .ok (.ireturn, 1) := by decide +kernel
theorem dL_law_911 : decode cL_law 911 = .ok (.goto 2336, 3) := by decide +kernel
theorem dL_law_914 : decode cL_law 914 = .ok (.aload_n 1, 1) := by decide +kernel
theorem dL_law_915 : decode cL_law 915 = .ok (.aload_n 0, 1) := by decide +kernel
theorem dL_law_916 : decode cL_law 916 = .ok (.iload 5, 2) := by decide +kernel
theorem dL_law_918 : decode cL_law 918 = .ok (.iconst 1, 1) := by decide +kernel
theorem dL_law_919 : decode cL_law 919 = .ok (.iadd, 1) := by decide +kernel
theorem dL_law_920 : decode cL_law 920 = .ok (.iaload, 1) := by decide +kernel
theorem dL_law_921 : decode cL_law 921 = .ok (.aload_n 3, 1) := by decide +kernel
theorem dL_law_922 : decode cL_law 922 = .ok (.invokestatic 215, 3) := by decide +kernel
theorem dL_law_925 : decode cL_law 925 = .ok (.istore 6, 2) := by decide +kernel
theorem dL_law_927 : decode cL_law 927 = .ok (.aload_n 2, 1) := by decide +kernel
theorem dL_law_928 : decode cL_law 928 = .ok (.aload_n 0, 1) := by decide +kernel
theorem dL_law_929 : decode cL_law 929 = .ok (.iload 5, 2) := by decide +kernel
theorem dL_law_931 : decode cL_law 931 = .ok (.iconst 1, 1) := by decide +kernel
theorem dL_law_932 : decode cL_law 932 = .ok (.iadd, 1) := by decide +kernel
theorem dL_law_933 : decode cL_law 933 = .ok (.iaload, 1) := by decide +kernel
theorem dL_law_934 : decode cL_law 934 = .ok (.invokevirtual 217, 3) := by decide +kernel
theorem dL_law_937 : decode cL_law 937 = .ok (.istore 7, 2) := by decide +kernel
theorem dL_law_939 : decode cL_law 939 = .ok (.aload_n 2, 1) := by decide +kernel
theorem dL_law_940 : decode cL_law 940 = .ok (.invokevirtual 184, 3) := by decide +kernel
theorem dL_law_943 : decode cL_law 943 = .ok (.iload 6, 2) := by decide +kernel
theorem dL_law_945 : decode cL_law 945 = .ok (.if_icmp .eq 5, 3) := by decide +kernel
theorem dL_law_948 : decode cL_law 948 = .ok (.iconst 0, 1) := by decide +kernel
theorem dL_law_949 : decode cL_law 949 = .ok (.ireturn, 1) := by decide +kernel
theorem dL_law_950 : decode cL_law 950 = .ok (.iload 6, 2) := by decide +kernel
theorem dL_law_952 : decode cL_law 952 = .ok (.ifCond .ne 15, 3) := by decide +kernel
theorem dL_law_955 : decode cL_law 955 = .ok (.aload_n 3, 1) := by decide +kernel
theorem dL_law_956 : decode cL_law 956 = .ok (.iconst 0, 1) := by decide +kernel
theorem dL_law_957 : decode cL_law 957 = .ok (.laload, 1) := by decide +kernel
theorem dL_law_958 : decode cL_law 958 = .ok (.iload 7, 2) := by decide +kernel
theorem dL_law_960 : decode cL_law 960 = .ok (.i2l, 1) := by decide +kernel
theorem dL_law_961 : decode cL_law 961 = .ok (.lcmp, 1) := by decide +kernel
theorem dL_law_962 : decode cL_law 962 = .ok (.ifCond .eq 5, 3) := by decide +kernel
theorem dL_law_965 : decode cL_law 965 = .ok (.iconst 0, 1) := by decide +kernel
theorem dL_law_966 : decode cL_law 966 = .ok (.ireturn, 1) := by decide +kernel
theorem dL_law_967 : decode cL_law 967 = .ok (.goto 2280, 3) := by decide +kernel
theorem dL_law_970 : decode cL_law 970 = .ok (.aload_n 1, 1) := by decide +kernel
theorem dL_law_971 : decode cL_law 971 = .ok (.aload_n 0, 1) := by decide +kernel
theorem dL_law_972 : decode cL_law 972 = .ok (.iload 5, 2) := by decide +kernel
theorem dL_law_974 : decode cL_law 974 = .ok (.iconst 1, 1) := by decide +kernel
theorem dL_law_975 : decode cL_law 975 = .ok (.iadd, 1) := by decide +kernel
theorem dL_law_976 : decode cL_law 976 = .ok (.iaload, 1) := by decide +kernel
theorem dL_law_977 : decode cL_law 977 = .ok (.aload_n 3, 1) := by decide +kernel
theorem dL_law_978 : decode cL_law 978 = .ok (.invokestatic 218, 3) := by decide +kernel
theorem dL_law_981 : decode cL_law 981 = .ok (.istore 6, 2) := by decide +kernel
theorem dL_law_983 : decode cL_law 983 = .ok (.aload_n 2, 1) := by decide +kernel
theorem dL_law_984 : decode cL_law 984 = .ok (.aload_n 0, 1) := by decide +kernel
theorem dL_law_985 : decode cL_law 985 = .ok (.iload 5, 2) := by decide +kernel
theorem dL_law_987 : decode cL_law 987 = .ok (.iconst 1, 1) := by decide +kernel
theorem dL_law_988 : decode cL_law 988 = .ok (.iadd, 1) := by decide +kernel
theorem dL_law_989 : decode cL_law 989 = .ok (.iaload, 1) := by decide +kernel
theorem dL_law_990 : decode cL_law 990 = .ok (.invokevirtual 220, 3) := by decide +kernel
theorem dL_law_993 : decode cL_law 993 = .ok (.istore 7, 2) := by decide +kernel
theorem dL_law_995 : decode cL_law 995 = .ok (.aload_n 2, 1) := by decide +kernel
theorem dL_law_996 : decode cL_law 996 = .ok (.invokevirtual 184, 3) := by decide +kernel
theorem dL_law_999 : decode cL_law 999 = .ok (.iload 6, 2) := by decide +kernel
theorem dL_law_1001 : decode cL_law 1001 = .ok (.if_icmp .eq 5, 3) := by decide +kernel
theorem dL_law_1004 : decode cL_law 1004 = .ok (.iconst 0, 1) := by decide +kernel
theorem dL_law_1005 : decode cL_law 1005 = .ok (.ireturn, 1) := by decide +kernel
theorem dL_law_1006 : decode cL_law 1006 = .ok (.iload 6, 2) := by decide +kernel
theorem dL_law_1008 : decode cL_law 1008 = .ok (.ifCond .ne 15, 3) := by decide +kernel
theorem dL_law_1011 : decode cL_law 1011 = .ok (.aload_n 3, 1) := by decide +kernel
theorem dL_law_1012 : decode cL_law 1012 = .ok (.iconst 0, 1) := by decide +kernel
theorem dL_law_1013 : decode cL_law 1013 = .ok (.laload, 1) := by decide +kernel
theorem dL_law_1014 : decode cL_law 1014 = .ok (.iload 7, 2) := by decide +kernel
theorem dL_law_1016 : decode cL_law 1016 = .ok (.i2l, 1) := by decide +kernel
theorem dL_law_1017 : decode cL_law 1017 = .ok (.lcmp, 1) := by decide +kernel
theorem dL_law_1018 : decode cL_law 1018 = .ok (.ifCond .eq 5, 3) := by decide +kernel
theorem dL_law_1021 : decode cL_law 1021 = .ok (.iconst 0, 1) := by decide +kernel
theorem dL_law_1022 : decode cL_law 1022 = .ok (.ireturn, 1) := by decide +kernel
theorem dL_law_1023 : decode cL_law 1023 = .ok (.goto 2224, 3) := by decide +kernel
theorem dL_law_1026 : decode cL_law 1026 = .ok (.aload_n 1, 1) := by decide +kernel
theorem dL_law_1027 : decode cL_law 1027 = .ok (.invokevirtual 221, 3) := by decide +kernel
theorem dL_law_1030 : decode cL_law 1030 = .ok (.aload_n 2, 1) := by decide +kernel
theorem dL_law_1031 : decode cL_law 1031 = .ok (.invokevirtual 224, 3) := by decide +kernel
theorem dL_law_1034 : decode cL_law 1034 = .ok (.if_icmp .eq 2213, 3) := by decide +kernel
theorem dL_law_1037 : decode cL_law 1037 = .ok (.iconst 0, 1) := by decide +kernel
theorem dL_law_1038 : decode cL_law 1038 = .ok (.ireturn, 1) := by decide +kernel
theorem dL_law_1039 : decode cL_law 1039 = .ok (.aload_n 1, 1) := by decide +kernel
theorem dL_law_1040 : decode cL_law 1040 = .ok (.invokevirtual 225, 3) := by decide +kernel
theorem dL_law_1043 : decode cL_law 1043 = .ok (.aload_n 2, 1) := by decide +kernel
theorem dL_law_1044 : decode cL_law 1044 = .ok (.invokevirtual 228, 3) := by decide +kernel
theorem dL_law_1047 : decode cL_law 1047 = .ok (.if_icmp .eq 2200, 3) := by decide +kernel
theorem dL_law_1050 : decode cL_law 1050 = .ok (.iconst 0, 1) := by decide +kernel
theorem dL_law_1051 : decode cL_law 1051 = .ok (.ireturn, 1) := by decide +kernel
theorem dL_law_1052 : decode cL_law 1052 = .ok (.aload_n 1, 1) := by decide +kernel
theorem dL_law_1053 : decode cL_law 1053 = .ok (.invokevirtual 229, 3) := by decide +kernel
theorem dL_law_1056 : decode cL_law 1056 = .ok (.aload_n 2, 1) := by decide +kernel
theorem dL_law_1057 : decode cL_law 1057 = .ok (.invokevirtual 232, 3) := by decide +kernel
theorem dL_law_1060 : decode cL_law 1060 = .ok (.if_icmp .eq 2187, 3) := by decide +kernel
theorem dL_law_1063 : decode cL_law 1063 = .ok (.iconst 0, 1) := by decide +kernel
theorem dL_law_1064 : decode cL_law 1064 = .ok (.ireturn, 1) := by decide +kernel
theorem dL_law_1065 : decode cL_law 1065 = .ok (.aload_n 1, 1) := by decide +kernel
theorem dL_law_1066 : decode cL_law 1066 = .ok (.aload_n 0, 1) := by decide +kernel
theorem dL_law_1067 : decode cL_law 1067 = .ok (.iload 5, 2) := by decide +kernel
theorem dL_law_1069 : decode cL_law 1069 = .ok (.iconst 1, 1) := by decide +kernel
theorem dL_law_1070 : decode cL_law 1070 = .ok (.iadd, 1) := by decide +kernel
theorem dL_law_1071 : decode cL_law 1071 = .ok (.iaload, 1) := by decide +kernel
theorem dL_law_1072 : decode cL_law 1072 = .ok (.aload_n 3, 1) := by decide +kernel
theorem dL_law_1073 : decode cL_law 1073 = .ok (.invokestatic 233, 3) := by decide +kernel
theorem dL_law_1076 : decode cL_law 1076 = .ok (.istore 6, 2) := by decide +kernel
theorem dL_law_1078 : decode cL_law 1078 = .ok (.aload_n 2, 1) := by decide +kernel
theorem dL_law_1079 : decode cL_law 1079 = .ok (.aload_n 0, 1) := by decide +kernel
theorem dL_law_1080 : decode cL_law 1080 = .ok (.iload 5, 2) := by decide +kernel
theorem dL_law_1082 : decode cL_law 1082 = .ok (.iconst 1, 1) := by decide +kernel
theorem dL_law_1083 : decode cL_law 1083 = .ok (.iadd, 1) := by decide +kernel
theorem dL_law_1084 : decode cL_law 1084 = .ok (.iaload, 1) := by decide +kernel
theorem dL_law_1085 : decode cL_law 1085 = .ok (.invokevirtual 235, 3) := by decide +kernel
theorem dL_law_1088 : decode cL_law 1088 = .ok (.istore 7, 2) := by decide +kernel
theorem dL_law_1090 : decode cL_law 1090 = .ok (.aload_n 2, 1) := by decide +kernel
theorem dL_law_1091 : decode cL_law 1091 = .ok (.invokevirtual 184, 3) := by decide +kernel
theorem dL_law_1094 : decode cL_law 1094 = .ok (.iload 6, 2) := by decide +kernel
theorem dL_law_1096 : decode cL_law 1096 = .ok (.if_icmp .eq 5, 3) := by decide +kernel
theorem dL_law_1099 : decode cL_law 1099 = .ok (.iconst 0, 1) := by decide +kernel
theorem dL_law_1100 : decode cL_law 1100 = .ok (.ireturn, 1) := by decide +kernel
theorem dL_law_1101 : decode cL_law 1101 = .ok (.iload 6, 2) := by decide +kernel
theorem dL_law_1103 : decode cL_law 1103 = .ok (.ifCond .ne 15, 3) := by decide +kernel
theorem dL_law_1106 : decode cL_law 1106 = .ok (.aload_n 3, 1) := by decide +kernel
theorem dL_law_1107 : decode cL_law 1107 = .ok (.iconst 0, 1) := by decide +kernel
theorem dL_law_1108 : decode cL_law 1108 = .ok (.laload, 1) := by decide +kernel
theorem dL_law_1109 : decode cL_law 1109 = .ok (.iload 7, 2) := by decide +kernel
theorem dL_law_1111 : decode cL_law 1111 = .ok (.i2l, 1) := by decide +kernel
theorem dL_law_1112 : decode cL_law 1112 = .ok (.lcmp, 1) := by decide +kernel
theorem dL_law_1113 : decode cL_law 1113 = .ok (.ifCond .eq 5, 3) := by decide +kernel
theorem dL_law_1116 : decode cL_law 1116 = .ok (.iconst 0, 1) := by decide +kernel
theorem dL_law_1117 : decode cL_law 1117 = .ok (.ireturn, 1) := by decide +kernel
theorem dL_law_1118 : decode cL_law 1118 = .ok (.goto 2129, 3) := by decide +kernel
theorem dL_law_1121 : decode cL_law 1121 = .ok (.aload_n 1, 1) := by decide +kernel
theorem dL_law_1122 : decode cL_law 1122 = .ok (.aload_n 0, 1) := by decide +kernel
theorem dL_law_1123 : decode cL_law 1123 = .ok (.iload 5, 2) := by decide +kernel
theorem dL_law_1125 : decode cL_law 1125 = .ok (.iconst 1, 1) := by decide +kernel
theorem dL_law_1126 : decode cL_law 1126 = .ok (.iadd, 1) := by decide +kernel
theorem dL_law_1127 : decode cL_law 1127 = .ok (.iaload, 1) := by decide +kernel
theorem dL_law_1128 : decode cL_law 1128 = .ok (.aload_n 3, 1) := by decide +kernel
theorem dL_law_1129 : decode cL_law 1129 = .ok (.invokestatic 236, 3) := by decide +kernel
theorem dL_law_1132 : decode cL_law 1132 = .ok (.istore 6, 2) := by decide +kernel
theorem dL_law_1134 : decode cL_law 1134 = .ok (.aload_n 2, 1) := by decide +kernel
theorem dL_law_1135 : decode cL_law 1135 = .ok (.aload_n 0, 1) := by decide +kernel
theorem dL_law_1136 : decode cL_law 1136 = .ok (.iload 5, 2) := by decide +kernel
theorem dL_law_1138 : decode cL_law 1138 = .ok (.iconst 1, 1) := by decide +kernel
theorem dL_law_1139 : decode cL_law 1139 = .ok (.iadd, 1) := by decide +kernel
theorem dL_law_1140 : decode cL_law 1140 = .ok (.iaload, 1) := by decide +kernel
theorem dL_law_1141 : decode cL_law 1141 = .ok (.invokevirtual 238, 3) := by decide +kernel
theorem dL_law_1144 : decode cL_law 1144 = .ok (.istore 7, 2) := by decide +kernel
theorem dL_law_1146 : decode cL_law 1146 = .ok (.aload_n 2, 1) := by decide +kernel
theorem dL_law_1147 : decode cL_law 1147 = .ok (.invokevirtual 184, 3) := by decide +kernel
theorem dL_law_1150 : decode cL_law 1150 = .ok (.iload 6, 2) := by decide +kernel
theorem dL_law_1152 : decode cL_law 1152 = .ok (.if_icmp .eq 5, 3) := by decide +kernel
theorem dL_law_1155 : decode cL_law 1155 = .ok (.iconst 0, 1) := by decide +kernel
theorem dL_law_1156 : decode cL_law 1156 = .ok (.ireturn, 1) := by decide +kernel
theorem dL_law_1157 : decode cL_law 1157 = .ok (.iload 6, 2) := by decide +kernel
theorem dL_law_1159 : decode cL_law 1159 = .ok (.ifCond .ne 15, 3) := by decide +kernel
theorem dL_law_1162 : decode cL_law 1162 = .ok (.aload_n 3, 1) := by decide +kernel
theorem dL_law_1163 : decode cL_law 1163 = .ok (.iconst 0, 1) := by decide +kernel
theorem dL_law_1164 : decode cL_law 1164 = .ok (.laload, 1) := by decide +kernel
theorem dL_law_1165 : decode cL_law 1165 = .ok (.iload 7, 2) := by decide +kernel
theorem dL_law_1167 : decode cL_law 1167 = .ok (.i2l, 1) := by decide +kernel
theorem dL_law_1168 : decode cL_law 1168 = .ok (.lcmp, 1) := by decide +kernel
theorem dL_law_1169 : decode cL_law 1169 = .ok (.ifCond .eq 5, 3) := by decide +kernel
theorem dL_law_1172 : decode cL_law 1172 = .ok (.iconst 0, 1) := by decide +kernel
theorem dL_law_1173 : decode cL_law 1173 = .ok (.ireturn, 1) := by decide +kernel
theorem dL_law_1174 : decode cL_law 1174 = .ok (.goto 2073, 3) := by decide +kernel
theorem dL_law_1177 : decode cL_law 1177 = .ok (.aload_n 1, 1) := by decide +kernel
theorem dL_law_1178 : decode cL_law 1178 = .ok (.aload_n 0, 1) := by decide +kernel
theorem dL_law_1179 : decode cL_law 1179 = .ok (.iload 5, 2) := by decide +kernel
theorem dL_law_1181 : decode cL_law 1181 = .ok (.iconst 1, 1) := by decide +kernel
theorem dL_law_1182 : decode cL_law 1182 = .ok (.iadd, 1) := by decide +kernel
theorem dL_law_1183 : decode cL_law 1183 = .ok (.iaload, 1) := by decide +kernel
theorem dL_law_1184 : decode cL_law 1184 = .ok (.aload_n 3, 1) := by decide +kernel
theorem dL_law_1185 : decode cL_law 1185 = .ok (.invokestatic 239, 3) := by decide +kernel
theorem dL_law_1188 : decode cL_law 1188 = .ok (.istore 6, 2) := by decide +kernel
theorem dL_law_1190 : decode cL_law 1190 = .ok (.aload_n 2, 1) := by decide +kernel
theorem dL_law_1191 : decode cL_law 1191 = .ok (.aload_n 0, 1) := by decide +kernel
theorem dL_law_1192 : decode cL_law 1192 = .ok (.iload 5, 2) := by decide +kernel
theorem dL_law_1194 : decode cL_law 1194 = .ok (.iconst 1, 1) := by decide +kernel
theorem dL_law_1195 : decode cL_law 1195 = .ok (.iadd, 1) := by decide +kernel
theorem dL_law_1196 : decode cL_law 1196 = .ok (.iaload, 1) := by decide +kernel
theorem dL_law_1197 : decode cL_law 1197 = .ok (.invokevirtual 241, 3) := by decide +kernel
theorem dL_law_1200 : decode cL_law 1200 = .ok (.lstore 7, 2) := by decide +kernel
theorem dL_law_1202 : decode cL_law 1202 = .ok (.aload_n 2, 1) := by decide +kernel
theorem dL_law_1203 : decode cL_law 1203 = .ok (.invokevirtual 184, 3) := by decide +kernel
theorem dL_law_1206 : decode cL_law 1206 = .ok (.iload 6, 2) := by decide +kernel
theorem dL_law_1208 : decode cL_law 1208 = .ok (.if_icmp .eq 5, 3) := by decide +kernel
theorem dL_law_1211 : decode cL_law 1211 = .ok (.iconst 0, 1) := by decide +kernel
theorem dL_law_1212 : decode cL_law 1212 = .ok (.ireturn, 1) := by decide +kernel
theorem dL_law_1213 : decode cL_law 1213 = .ok (.iload 6, 2) := by decide +kernel
theorem dL_law_1215 : decode cL_law 1215 = .ok (.ifCond .ne 14, 3) := by decide +kernel
theorem dL_law_1218 : decode cL_law 1218 = .ok (.aload_n 3, 1) := by decide +kernel
theorem dL_law_1219 : decode cL_law 1219 = .ok (.iconst 0, 1) := by decide +kernel
theorem dL_law_1220 : decode cL_law 1220 = .ok (.laload, 1) := by decide +kernel
theorem dL_law_1221 : decode cL_law 1221 = .ok (.lload 7, 2) := by decide +kernel
theorem dL_law_1223 : decode cL_law 1223 = .ok (.lcmp, 1) := by decide +kernel
theorem dL_law_1224 : decode cL_law 1224 = .ok (.ifCond .eq 5, 3) := by decide +kernel
theorem dL_law_1227 : decode cL_law 1227 = .ok (.iconst 0, 1) := by decide +kernel
theorem dL_law_1228 : decode cL_law 1228 = .ok (.ireturn, 1) := by decide +kernel
theorem dL_law_1229 : decode cL_law 1229 = .ok (.goto 2018, 3) := by decide +kernel
theorem dL_law_1232 : decode cL_law 1232 = .ok (.aload_n 1, 1) := by decide +kernel
theorem dL_law_1233 : decode cL_law 1233 = .ok (.aload_n 0, 1) := by decide +kernel
theorem dL_law_1234 : decode cL_law 1234 = .ok (.iload 5, 2) := by decide +kernel
theorem dL_law_1236 : decode cL_law 1236 = .ok (.iconst 1, 1) := by decide +kernel
theorem dL_law_1237 : decode cL_law 1237 = .ok (.iadd, 1) := by decide +kernel
theorem dL_law_1238 : decode cL_law 1238 = .ok (.iaload, 1) := by decide +kernel
theorem dL_law_1239 : decode cL_law 1239 = .ok (.aload_n 3, 1) := by decide +kernel
theorem dL_law_1240 : decode cL_law 1240 = .ok (.invokestatic 242, 3) := by decide +kernel
theorem dL_law_1243 : decode cL_law 1243 = .ok (.istore 6, 2) := by decide +kernel
theorem dL_law_1245 : decode cL_law 1245 = .ok (.aload_n 2, 1) := by decide +kernel
theorem dL_law_1246 : decode cL_law 1246 = .ok (.aload_n 0, 1) := by decide +kernel
theorem dL_law_1247 : decode cL_law 1247 = .ok (.iload 5, 2) := by decide +kernel
theorem dL_law_1249 : decode cL_law 1249 = .ok (.iconst 1, 1) := by decide +kernel
theorem dL_law_1250 : decode cL_law 1250 = .ok (.iadd, 1) := by decide +kernel
theorem dL_law_1251 : decode cL_law 1251 = .ok (.iaload, 1) := by decide +kernel
theorem dL_law_1252 : decode cL_law 1252 = .ok (.invokevirtual 244, 3) := by decide +kernel
theorem dL_law_1255 : decode cL_law 1255 = .ok (.lstore 7, 2) := by decide +kernel
theorem dL_law_1257 : decode cL_law 1257 = .ok (.aload_n 2, 1) := by decide +kernel
theorem dL_law_1258 : decode cL_law 1258 = .ok (.invokevirtual 184, 3) := by decide +kernel
theorem dL_law_1261 : decode cL_law 1261 = .ok (.iload 6, 2) := by decide +kernel
theorem dL_law_1263 : decode cL_law 1263 = .ok (.if_icmp .eq 5, 3) := by decide +kernel
theorem dL_law_1266 : decode cL_law 1266 = .ok (.iconst 0, 1) := by decide +kernel
theorem dL_law_1267 : decode cL_law 1267 = .ok (.ireturn, 1) := by decide +kernel
theorem dL_law_1268 : decode cL_law 1268 = .ok (.iload 6, 2) := by decide +kernel
theorem dL_law_1270 : decode cL_law 1270 = .ok (.ifCond .ne 14, 3) := by decide +kernel
theorem dL_law_1273 : decode cL_law 1273 = .ok (.aload_n 3, 1) := by decide +kernel
theorem dL_law_1274 : decode cL_law 1274 = .ok (.iconst 0, 1) := by decide +kernel
theorem dL_law_1275 : decode cL_law 1275 = .ok (.laload, 1) := by decide +kernel
theorem dL_law_1276 : decode cL_law 1276 = .ok (.lload 7, 2) := by decide +kernel
theorem dL_law_1278 : decode cL_law 1278 = .ok (.lcmp, 1) := by decide +kernel
theorem dL_law_1279 : decode cL_law 1279 = .ok (.ifCond .eq 5, 3) := by decide +kernel
theorem dL_law_1282 : decode cL_law 1282 = .ok (.iconst 0, 1) := by decide +kernel
theorem dL_law_1283 : decode cL_law 1283 = .ok (.ireturn, 1) := by decide +kernel
theorem dL_law_1284 : decode cL_law 1284 = .ok (.goto 1963, 3) := by decide +kernel
theorem dL_law_1287 : decode cL_law 1287 = .ok (.aload_n 1, 1) := by decide +kernel
theorem dL_law_1288 : decode cL_law 1288 = .ok (.aload_n 0, 1) := by decide +kernel
theorem dL_law_1289 : decode cL_law 1289 = .ok (.iload 5, 2) := by decide +kernel
theorem dL_law_1291 : decode cL_law 1291 = .ok (.iconst 1, 1) := by decide +kernel
theorem dL_law_1292 : decode cL_law 1292 = .ok (.iadd, 1) := by decide +kernel
theorem dL_law_1293 : decode cL_law 1293 = .ok (.iaload, 1) := by decide +kernel
theorem dL_law_1294 : decode cL_law 1294 = .ok (.aload_n 3, 1) := by decide +kernel
theorem dL_law_1295 : decode cL_law 1295 = .ok (.invokestatic 245, 3) := by decide +kernel
theorem dL_law_1298 : decode cL_law 1298 = .ok (.istore 6, 2) := by decide +kernel
theorem dL_law_1300 : decode cL_law 1300 = .ok (.aload_n 2, 1) := by decide +kernel
theorem dL_law_1301 : decode cL_law 1301 = .ok (.aload_n 0, 1) := by decide +kernel
theorem dL_law_1302 : decode cL_law 1302 = .ok (.iload 5, 2) := by decide +kernel
theorem dL_law_1304 : decode cL_law 1304 = .ok (.iconst 1, 1) := by decide +kernel
theorem dL_law_1305 : decode cL_law 1305 = .ok (.iadd, 1) := by decide +kernel
theorem dL_law_1306 : decode cL_law 1306 = .ok (.iaload, 1) := by decide +kernel
theorem dL_law_1307 : decode cL_law 1307 = .ok (.invokevirtual 247, 3) := by decide +kernel
theorem dL_law_1310 : decode cL_law 1310 = .ok (.lstore 7, 2) := by decide +kernel
theorem dL_law_1312 : decode cL_law 1312 = .ok (.aload_n 2, 1) := by decide +kernel
theorem dL_law_1313 : decode cL_law 1313 = .ok (.invokevirtual 184, 3) := by decide +kernel
theorem dL_law_1316 : decode cL_law 1316 = .ok (.iload 6, 2) := by decide +kernel
theorem dL_law_1318 : decode cL_law 1318 = .ok (.if_icmp .eq 5, 3) := by decide +kernel
theorem dL_law_1321 : decode cL_law 1321 = .ok (.iconst 0, 1) := by decide +kernel
theorem dL_law_1322 : decode cL_law 1322 = .ok (.ireturn, 1) := by decide +kernel
theorem dL_law_1323 : decode cL_law 1323 = .ok (.iload 6, 2) := by decide +kernel
theorem dL_law_1325 : decode cL_law 1325 = .ok (.ifCond .ne 14, 3) := by decide +kernel
theorem dL_law_1328 : decode cL_law 1328 = .ok (.aload_n 3, 1) := by decide +kernel
theorem dL_law_1329 : decode cL_law 1329 = .ok (.iconst 0, 1) := by decide +kernel
theorem dL_law_1330 : decode cL_law 1330 = .ok (.laload, 1) := by decide +kernel
theorem dL_law_1331 : decode cL_law 1331 = .ok (.lload 7, 2) := by decide +kernel
theorem dL_law_1333 : decode cL_law 1333 = .ok (.lcmp, 1) := by decide +kernel
theorem dL_law_1334 : decode cL_law 1334 = .ok (.ifCond .eq 5, 3) := by decide +kernel
theorem dL_law_1337 : decode cL_law 1337 = .ok (.iconst 0, 1) := by decide +kernel
theorem dL_law_1338 : decode cL_law 1338 = .ok (.ireturn, 1) := by decide +kernel
theorem dL_law_1339 : decode cL_law 1339 = .ok (.goto 1908, 3) := by decide +kernel
theorem dL_law_1342 : decode cL_law 1342 = .ok (.aload_n 1, 1) := by decide +kernel
theorem dL_law_1343 : decode cL_law 1343 = .ok (.aload_n 0, 1) := by decide +kernel
theorem dL_law_1344 : decode cL_law 1344 = .ok (.iload 5, 2) := by decide +kernel
theorem dL_law_1346 : decode cL_law 1346 = .ok (.iconst 1, 1) := by decide +kernel
theorem dL_law_1347 : decode cL_law 1347 = .ok (.iadd, 1) := by decide +kernel
theorem dL_law_1348 : decode cL_law 1348 = .ok (.iaload, 1) := by decide +kernel
theorem dL_law_1349 : decode cL_law 1349 = .ok (.aload_n 3, 1) := by decide +kernel
theorem dL_law_1350 : decode cL_law 1350 = .ok (.invokestatic 248, 3) := by decide +kernel
theorem dL_law_1353 : decode cL_law 1353 = .ok (.istore 6, 2) := by decide +kernel
theorem dL_law_1355 : decode cL_law 1355 = .ok (.aload_n 2, 1) := by decide +kernel
theorem dL_law_1356 : decode cL_law 1356 = .ok (.aload_n 0, 1) := by decide +kernel
theorem dL_law_1357 : decode cL_law 1357 = .ok (.iload 5, 2) := by decide +kernel
theorem dL_law_1359 : decode cL_law 1359 = .ok (.iconst 1, 1) := by decide +kernel
theorem dL_law_1360 : decode cL_law 1360 = .ok (.iadd, 1) := by decide +kernel
theorem dL_law_1361 : decode cL_law 1361 = .ok (.iaload, 1) := by decide +kernel
theorem dL_law_1362 : decode cL_law 1362 = .ok (.invokevirtual 250, 3) := by decide +kernel
theorem dL_law_1365 : decode cL_law 1365 = .ok (.lstore 7, 2) := by decide +kernel
theorem dL_law_1367 : decode cL_law 1367 = .ok (.aload_n 2, 1) := by decide +kernel
theorem dL_law_1368 : decode cL_law 1368 = .ok (.invokevirtual 184, 3) := by decide +kernel
theorem dL_law_1371 : decode cL_law 1371 = .ok (.iload 6, 2) := by decide +kernel
theorem dL_law_1373 : decode cL_law 1373 = .ok (.if_icmp .eq 5, 3) := by decide +kernel
theorem dL_law_1376 : decode cL_law 1376 = .ok (.iconst 0, 1) := by decide +kernel
theorem dL_law_1377 : decode cL_law 1377 = .ok (.ireturn, 1) := by decide +kernel
theorem dL_law_1378 : decode cL_law 1378 = .ok (.iload 6, 2) := by decide +kernel
theorem dL_law_1380 : decode cL_law 1380 = .ok (.ifCond .ne 14, 3) := by decide +kernel
theorem dL_law_1383 : decode cL_law 1383 = .ok (.aload_n 3, 1) := by decide +kernel
theorem dL_law_1384 : decode cL_law 1384 = .ok (.iconst 0, 1) := by decide +kernel
theorem dL_law_1385 : decode cL_law 1385 = .ok (.laload, 1) := by decide +kernel
theorem dL_law_1386 : decode cL_law 1386 = .ok (.lload 7, 2) := by decide +kernel
theorem dL_law_1388 : decode cL_law 1388 = .ok (.lcmp, 1) := by decide +kernel
theorem dL_law_1389 : decode cL_law 1389 = .ok (.ifCond .eq 5, 3) := by decide +kernel
theorem dL_law_1392 : decode cL_law 1392 = .ok (.iconst 0, 1) := by decide +kernel
theorem dL_law_1393 : decode cL_law 1393 = .ok (.ireturn, 1) := by decide +kernel
theorem dL_law_1394 : decode cL_law 1394 = .ok (.goto 1853, 3) := by decide +kernel
theorem dL_law_1397 : decode cL_law 1397 = .ok (.aload_n 1, 1) := by decide +kernel
theorem dL_law_1398 : decode cL_law 1398 = .ok (.aload_n 0, 1) := by decide +kernel
theorem dL_law_1399 : decode cL_law 1399 = .ok (.iload 5, 2) := by decide +kernel
theorem dL_law_1401 : decode cL_law 1401 = .ok (.iconst 1, 1) := by decide +kernel
theorem dL_law_1402 : decode cL_law 1402 = .ok (.iadd, 1) := by decide +kernel
theorem dL_law_1403 : decode cL_law 1403 = .ok (.iaload, 1) := by decide +kernel
theorem dL_law_1404 : decode cL_law 1404 = .ok (.aload_n 3, 1) := by decide +kernel
theorem dL_law_1405 : decode cL_law 1405 = .ok (.invokestatic 251, 3) := by decide +kernel
theorem dL_law_1408 : decode cL_law 1408 = .ok (.istore 6, 2) := by decide +kernel
theorem dL_law_1410 : decode cL_law 1410 = .ok (.aload_n 2, 1) := by decide +kernel
theorem dL_law_1411 : decode cL_law 1411 = .ok (.aload_n 0, 1) := by decide +kernel
theorem dL_law_1412 : decode cL_law 1412 = .ok (.iload 5, 2) := by decide +kernel
theorem dL_law_1414 : decode cL_law 1414 = .ok (.iconst 1, 1) := by decide +kernel
theorem dL_law_1415 : decode cL_law 1415 = .ok (.iadd, 1) := by decide +kernel
theorem dL_law_1416 : decode cL_law 1416 = .ok (.iaload, 1) := by decide +kernel
theorem dL_law_1417 : decode cL_law 1417 = .ok (.invokevirtual 253, 3) := by decide +kernel
theorem dL_law_1420 : decode cL_law 1420 = .ok (.lstore 7, 2) := by decide +kernel
theorem dL_law_1422 : decode cL_law 1422 = .ok (.aload_n 2, 1) := by decide +kernel
theorem dL_law_1423 : decode cL_law 1423 = .ok (.invokevirtual 184, 3) := by decide +kernel
theorem dL_law_1426 : decode cL_law 1426 = .ok (.iload 6, 2) := by decide +kernel
theorem dL_law_1428 : decode cL_law 1428 = .ok (.if_icmp .eq 5, 3) := by decide +kernel
theorem dL_law_1431 : decode cL_law 1431 = .ok (.iconst 0, 1) := by decide +kernel
theorem dL_law_1432 : decode cL_law 1432 = .ok (.ireturn, 1) := by decide +kernel
theorem dL_law_1433 : decode cL_law 1433 = .ok (.iload 6, 2) := by decide +kernel
theorem dL_law_1435 : decode cL_law 1435 = .ok (.ifCond .ne 14, 3) := by decide +kernel
theorem dL_law_1438 : decode cL_law 1438 = .ok (.aload_n 3, 1) := by decide +kernel
theorem dL_law_1439 : decode cL_law 1439 = .ok (.iconst 0, 1) := by decide +kernel
theorem dL_law_1440 : decode cL_law 1440 = .ok (.laload, 1) := by decide +kernel
theorem dL_law_1441 : decode cL_law 1441 = .ok (.lload 7, 2) := by decide +kernel
theorem dL_law_1443 : decode cL_law 1443 = .ok (.lcmp, 1) := by decide +kernel
theorem dL_law_1444 : decode cL_law 1444 = .ok (.ifCond .eq 5, 3) := by decide +kernel
theorem dL_law_1447 : decode cL_law 1447 = .ok (.iconst 0, 1) := by decide +kernel
theorem dL_law_1448 : decode cL_law 1448 = .ok (.ireturn, 1) := by decide +kernel
theorem dL_law_1449 : decode cL_law 1449 = .ok (.goto 1798, 3) := by decide +kernel
theorem dL_law_1452 : decode cL_law 1452 = .ok (.aload_n 1, 1) := by decide +kernel
theorem dL_law_1453 : decode cL_law 1453 = .ok (.aload_n 0, 1) := by decide +kernel
theorem dL_law_1454 : decode cL_law 1454 = .ok (.iload 5, 2) := by decide +kernel
theorem dL_law_1456 : decode cL_law 1456 = .ok (.iconst 1, 1) := by decide +kernel
theorem dL_law_1457 : decode cL_law 1457 = .ok (.iadd, 1) := by decide +kernel
theorem dL_law_1458 : decode cL_law 1458 = .ok (.iaload, 1) := by decide +kernel
theorem dL_law_1459 : decode cL_law 1459 = .ok (.aload_n 3, 1) := by decide +kernel
theorem dL_law_1460 : decode cL_law 1460 = .ok (.invokestatic 254, 3) := by decide +kernel
theorem dL_law_1463 : decode cL_law 1463 = .ok (.istore 6, 2) := by decide +kernel
theorem dL_law_1465 : decode cL_law 1465 = .ok (.aload_n 2, 1) := by decide +kernel
theorem dL_law_1466 : decode cL_law 1466 = .ok (.aload_n 0, 1) := by decide +kernel
theorem dL_law_1467 : decode cL_law 1467 = .ok (.iload 5, 2) := by decide +kernel
theorem dL_law_1469 : decode cL_law 1469 = .ok (.iconst 1, 1) := by decide +kernel
theorem dL_law_1470 : decode cL_law 1470 = .ok (.iadd, 1) := by decide +kernel
theorem dL_law_1471 : decode cL_law 1471 = .ok (.iaload, 1) := by decide +kernel
theorem dL_law_1472 : decode cL_law 1472 = .ok (.invokevirtual 256, 3) := by decide +kernel
theorem dL_law_1475 : decode cL_law 1475 = .ok (.istore 7, 2) := by decide +kernel
theorem dL_law_1477 : decode cL_law 1477 = .ok (.aload_n 2, 1) := by decide +kernel
theorem dL_law_1478 : decode cL_law 1478 = .ok (.invokevirtual 184, 3) := by decide +kernel
theorem dL_law_1481 : decode cL_law 1481 = .ok (.iload 6, 2) := by decide +kernel
theorem dL_law_1483 : decode cL_law 1483 = .ok (.if_icmp .eq 5, 3) := by decide +kernel
theorem dL_law_1486 : decode cL_law 1486 = .ok (.iconst 0, 1) := by decide +kernel
theorem dL_law_1487 : decode cL_law 1487 = .ok (.ireturn, 1) := by decide +kernel
theorem dL_law_1488 : decode cL_law 1488 = .ok (.iload 6, 2) := by decide +kernel
theorem dL_law_1490 : decode cL_law 1490 = .ok (.ifCond .ne 15, 3) := by decide +kernel
theorem dL_law_1493 : decode cL_law 1493 = .ok (.aload_n 3, 1) := by decide +kernel
theorem dL_law_1494 : decode cL_law 1494 = .ok (.iconst 0, 1) := by decide +kernel
theorem dL_law_1495 : decode cL_law 1495 = .ok (.laload, 1) := by decide +kernel
theorem dL_law_1496 : decode cL_law 1496 = .ok (.iload 7, 2) := by decide +kernel
theorem dL_law_1498 : decode cL_law 1498 = .ok (.i2l, 1) := by decide +kernel
theorem dL_law_1499 : decode cL_law 1499 = .ok (.lcmp, 1) := by decide +kernel
theorem dL_law_1500 : decode cL_law 1500 = .ok (.ifCond .eq 5, 3) := by decide +kernel
theorem dL_law_1503 : decode cL_law 1503 = .ok (.iconst 0, 1) := by decide +kernel
theorem dL_law_1504 : decode cL_law 1504 = .ok (.ireturn, 1) := by decide +kernel
theorem dL_law_1505 : decode cL_law 1505 = .ok (.goto 1742, 3) := by decide +kernel
theorem dL_law_1508 : decode cL_law 1508 = .ok (.aload_n 1, 1) := by decide +kernel
theorem dL_law_1509 : decode cL_law 1509 = .ok (.invokevirtual 257, 3) := by decide +kernel
theorem dL_law_1512 : decode cL_law 1512 = .ok (.aload_n 2, 1) := by decide +kernel
theorem dL_law_1513 : decode cL_law 1513 = .ok (.invokevirtual 261, 3) := by decide +kernel
theorem dL_law_1516 : decode cL_law 1516 = .ok (.lcmp, 1) := by decide +kernel
theorem dL_law_1517 : decode cL_law 1517 = .ok (.ifCond .eq 1730, 3) := by decide +kernel
theorem dL_law_1520 : decode cL_law 1520 = .ok (.iconst 0, 1) := by decide +kernel
theorem dL_law_1521 : decode cL_law 1521 = .ok (.ireturn, 1) := by decide +kernel
theorem dL_law_1522 : decode cL_law 1522 = .ok (.aload_n 1, 1) := by decide +kernel
theorem dL_law_1523 : decode cL_law 1523 = .ok (.invokevirtual 262, 3) := by decide +kernel
theorem dL_law_1526 : decode cL_law 1526 = .ok (.aload_n 2, 1) := by decide +kernel
theorem dL_law_1527 : decode cL_law 1527 = .ok (.invokevirtual 265, 3) := by decide +kernel
theorem dL_law_1530 : decode cL_law 1530 = .ok (.lcmp, 1) := by decide +kernel
theorem dL_law_1531 : decode cL_law 1531 = .ok (.ifCond .eq 1716, 3) := by decide +kernel
theorem dL_law_1534 : decode cL_law 1534 = .ok (.iconst 0, 1) := by decide +kernel
theorem dL_law_1535 : decode cL_law 1535 = .ok (.ireturn, 1) := by decide +kernel
theorem dL_law_1536 : decode cL_law 1536 = .ok (.aload_n 1, 1) := by decide +kernel
theorem dL_law_1537 : decode cL_law 1537 = .ok (.invokevirtual 266, 3) := by decide +kernel
theorem dL_law_1540 : decode cL_law 1540 = .ok (.aload_n 2, 1) := by decide +kernel
theorem dL_law_1541 : decode cL_law 1541 = .ok (.invokevirtual 269, 3) := by decide +kernel
theorem dL_law_1544 : decode cL_law 1544 = .ok (.lcmp, 1) := by decide +kernel
theorem dL_law_1545 : decode cL_law 1545 = .ok (.ifCond .eq 1702, 3) := by decide +kernel
theorem dL_law_1548 : decode cL_law 1548 = .ok (.iconst 0, 1) := by decide +kernel
theorem dL_law_1549 : decode cL_law 1549 = .ok (.ireturn, 1) := by decide +kernel
theorem dL_law_1550 : decode cL_law 1550 = .ok (.aload_n 1, 1) := by decide +kernel
theorem dL_law_1551 : decode cL_law 1551 = .ok (.invokevirtual 270, 3) := by decide +kernel
theorem dL_law_1554 : decode cL_law 1554 = .ok (.aload_n 2, 1) := by decide +kernel
theorem dL_law_1555 : decode cL_law 1555 = .ok (.invokevirtual 273, 3) := by decide +kernel
theorem dL_law_1558 : decode cL_law 1558 = .ok (.if_icmp .eq 1689, 3) := by decide +kernel
theorem dL_law_1561 : decode cL_law 1561 = .ok (.iconst 0, 1) := by decide +kernel
theorem dL_law_1562 : decode cL_law 1562 = .ok (.ireturn, 1) := by decide +kernel
theorem dL_law_1563 : decode cL_law 1563 = .ok (.aload_n 1, 1) := by decide +kernel
theorem dL_law_1564 : decode cL_law 1564 = .ok (.aload_n 0, 1) := by decide +kernel
theorem dL_law_1565 : decode cL_law 1565 = .ok (.iload 5, 2) := by decide +kernel
theorem dL_law_1567 : decode cL_law 1567 = .ok (.iconst 1, 1) := by decide +kernel
theorem dL_law_1568 : decode cL_law 1568 = .ok (.iadd, 1) := by decide +kernel
theorem dL_law_1569 : decode cL_law 1569 = .ok (.iaload, 1) := by decide +kernel
theorem dL_law_1570 : decode cL_law 1570 = .ok (.aload_n 3, 1) := by decide +kernel
theorem dL_law_1571 : decode cL_law 1571 = .ok (.invokestatic 274, 3) := by decide +kernel
theorem dL_law_1574 : decode cL_law 1574 = .ok (.istore 6, 2) := by decide +kernel
theorem dL_law_1576 : decode cL_law 1576 = .ok (.aload_n 2, 1) := by decide +kernel
theorem dL_law_1577 : decode cL_law 1577 = .ok (.aload_n 0, 1) := by decide +kernel
theorem dL_law_1578 : decode cL_law 1578 = .ok (.iload 5, 2) := by decide +kernel
theorem dL_law_1580 : decode cL_law 1580 = .ok (.iconst 1, 1) := by decide +kernel
theorem dL_law_1581 : decode cL_law 1581 = .ok (.iadd, 1) := by decide +kernel
theorem dL_law_1582 : decode cL_law 1582 = .ok (.iaload, 1) := by decide +kernel
theorem dL_law_1583 : decode cL_law 1583 = .ok (.invokevirtual 276, 3) := by decide +kernel
theorem dL_law_1586 : decode cL_law 1586 = .ok (.istore 7, 2) := by decide +kernel
theorem dL_law_1588 : decode cL_law 1588 = .ok (.aload_n 2, 1) := by decide +kernel
theorem dL_law_1589 : decode cL_law 1589 = .ok (.invokevirtual 184, 3) := by decide +kernel
theorem dL_law_1592 : decode cL_law 1592 = .ok (.iload 6, 2) := by decide +kernel
theorem dL_law_1594 : decode cL_law 1594 = .ok (.if_icmp .eq 5, 3) := by decide +kernel
theorem dL_law_1597 : decode cL_law 1597 = .ok (.iconst 0, 1) := by decide +kernel
theorem dL_law_1598 : decode cL_law 1598 = .ok (.ireturn, 1) := by decide +kernel
theorem dL_law_1599 : decode cL_law 1599 = .ok (.iload 6, 2) := by decide +kernel
theorem dL_law_1601 : decode cL_law 1601 = .ok (.ifCond .ne 15, 3) := by decide +kernel
theorem dL_law_1604 : decode cL_law 1604 = .ok (.aload_n 3, 1) := by decide +kernel
theorem dL_law_1605 : decode cL_law 1605 = .ok (.iconst 0, 1) := by decide +kernel
theorem dL_law_1606 : decode cL_law 1606 = .ok (.laload, 1) := by decide +kernel
theorem dL_law_1607 : decode cL_law 1607 = .ok (.iload 7, 2) := by decide +kernel
theorem dL_law_1609 : decode cL_law 1609 = .ok (.i2l, 1) := by decide +kernel
theorem dL_law_1610 : decode cL_law 1610 = .ok (.lcmp, 1) := by decide +kernel
theorem dL_law_1611 : decode cL_law 1611 = .ok (.ifCond .eq 5, 3) := by decide +kernel
theorem dL_law_1614 : decode cL_law 1614 = .ok (.iconst 0, 1) := by decide +kernel
theorem dL_law_1615 : decode cL_law 1615 = .ok (.ireturn, 1) := by decide +kernel
theorem dL_law_1616 : decode cL_law 1616 = .ok (.goto 1631, 3) := by decide +kernel
theorem dL_law_1619 : decode cL_law 1619 = .ok (.aload_n 1, 1) := by decide +kernel
theorem dL_law_1620 : decode cL_law 1620 = .ok (.aload_n 0, 1) := by decide +kernel
theorem dL_law_1621 : decode cL_law 1621 = .ok (.iload 5, 2) := by decide +kernel
theorem dL_law_1623 : decode cL_law 1623 = .ok (.iconst 1, 1) := by decide +kernel
theorem dL_law_1624 : decode cL_law 1624 = .ok (.iadd, 1) := by decide +kernel
theorem dL_law_1625 : decode cL_law 1625 = .ok (.iaload, 1) := by decide +kernel
theorem dL_law_1626 : decode cL_law 1626 = .ok (.aload_n 3, 1) := by decide +kernel
theorem dL_law_1627 : decode cL_law 1627 = .ok (.invokestatic 277, 3) := by decide +kernel
theorem dL_law_1630 : decode cL_law 1630 = .ok (.istore 6, 2) := by decide +kernel
theorem dL_law_1632 : decode cL_law 1632 = .ok (.aload_n 2, 1) := by decide +kernel
theorem dL_law_1633 : decode cL_law 1633 = .ok (.aload_n 0, 1) := by decide +kernel
theorem dL_law_1634 : decode cL_law 1634 = .ok (.iload 5, 2) := by decide +kernel
theorem dL_law_1636 : decode cL_law 1636 = .ok (.iconst 1, 1) := by decide +kernel
theorem dL_law_1637 : decode cL_law 1637 = .ok (.iadd, 1) := by decide +kernel
theorem dL_law_1638 : decode cL_law 1638 = .ok (.iaload, 1) := by decide +kernel
theorem dL_law_1639 : decode cL_law 1639 = .ok (.invokevirtual 279, 3) := by decide +kernel
theorem dL_law_1642 : decode cL_law 1642 = .ok (.istore 7, 2) := by decide +kernel
theorem dL_law_1644 : decode cL_law 1644 = .ok (.aload_n 2, 1) := by decide +kernel
theorem dL_law_1645 : decode cL_law 1645 = .ok (.invokevirtual 184, 3) := by decide +kernel
theorem dL_law_1648 : decode cL_law 1648 = .ok (.iload 6, 2) := by decide +kernel
theorem dL_law_1650 : decode cL_law 1650 = .ok (.if_icmp .eq 5, 3) := by decide +kernel
theorem dL_law_1653 : decode cL_law 1653 = .ok (.iconst 0, 1) := by decide +kernel
theorem dL_law_1654 : decode cL_law 1654 = .ok (.ireturn, 1) := by decide +kernel
theorem dL_law_1655 : decode cL_law 1655 = .ok (.iload 6, 2) := by decide +kernel
theorem dL_law_1657 : decode cL_law 1657 = .ok (.ifCond .ne 15, 3) := by decide +kernel
theorem dL_law_1660 : decode cL_law 1660 = .ok (.aload_n 3, 1) := by decide +kernel
theorem dL_law_1661 : decode cL_law 1661 = .ok (.iconst 0, 1) := by decide +kernel
theorem dL_law_1662 : decode cL_law 1662 = .ok (.laload, 1) := by decide +kernel
theorem dL_law_1663 : decode cL_law 1663 = .ok (.iload 7, 2) := by decide +kernel
theorem dL_law_1665 : decode cL_law 1665 = .ok (.i2l, 1) := by decide +kernel
theorem dL_law_1666 : decode cL_law 1666 = .ok (.lcmp, 1) := by decide +kernel
theorem dL_law_1667 : decode cL_law 1667 = .ok (.ifCond .eq 5, 3) := by decide +kernel
theorem dL_law_1670 : decode cL_law 1670 = .ok (.iconst 0, 1) := by decide +kernel
theorem dL_law_1671 : decode cL_law 1671 = .ok (.ireturn, 1) := by decide +kernel
theorem dL_law_1672 : decode cL_law 1672 = .ok (.goto 1575, 3) := by decide +kernel
theorem dL_law_1675 : decode cL_law 1675 = .ok (.aload_n 1, 1) := by decide +kernel
theorem dL_law_1676 : decode cL_law 1676 = .ok (.aload_n 0, 1) := by decide +kernel
theorem dL_law_1677 : decode cL_law 1677 = .ok (.iload 5, 2) := by decide +kernel
theorem dL_law_1679 : decode cL_law 1679 = .ok (.iconst 1, 1) := by decide +kernel
theorem dL_law_1680 : decode cL_law 1680 = .ok (.iadd, 1) := by decide +kernel
theorem dL_law_1681 : decode cL_law 1681 = .ok (.iaload, 1) := by decide +kernel
theorem dL_law_1682 : decode cL_law 1682 = .ok (.aload_n 3, 1) := by decide +kernel
theorem dL_law_1683 : decode cL_law 1683 = .ok (.invokestatic 280, 3) := by decide +kernel
theorem dL_law_1686 : decode cL_law 1686 = .ok (.istore 6, 2) := by decide +kernel
theorem dL_law_1688 : decode cL_law 1688 = .ok (.aload_n 2, 1) := by decide +kernel
theorem dL_law_1689 : decode cL_law 1689 = .ok (.aload_n 0, 1) := by decide +kernel
theorem dL_law_1690 : decode cL_law 1690 = .ok (.iload 5, 2) := by decide +kernel
theorem dL_law_1692 : decode cL_law 1692 = .ok (.iconst 1, 1) := by decide +kernel
theorem dL_law_1693 : decode cL_law 1693 = .ok (.iadd, 1) := by decide +kernel
theorem dL_law_1694 : decode cL_law 1694 = .ok (.iaload, 1) := by decide +kernel
theorem dL_law_1695 : decode cL_law 1695 = .ok (.invokevirtual 282, 3) := by decide +kernel
theorem dL_law_1698 : decode cL_law 1698 = .ok (.istore 7, 2) := by decide +kernel
theorem dL_law_1700 : decode cL_law 1700 = .ok (.aload_n 2, 1) := by decide +kernel
theorem dL_law_1701 : decode cL_law 1701 = .ok (.invokevirtual 184, 3) := by decide +kernel
theorem dL_law_1704 : decode cL_law 1704 = .ok (.iload 6, 2) := by decide +kernel
theorem dL_law_1706 : decode cL_law 1706 = .ok (.if_icmp .eq 5, 3) := by decide +kernel
theorem dL_law_1709 : decode cL_law 1709 = .ok (.iconst 0, 1) := by decide +kernel
theorem dL_law_1710 : decode cL_law 1710 = .ok (.ireturn, 1) := by decide +kernel
theorem dL_law_1711 : decode cL_law 1711 = .ok (.iload 6, 2) := by decide +kernel
theorem dL_law_1713 : decode cL_law 1713 = .ok (.ifCond .ne 15, 3) := by decide +kernel
theorem dL_law_1716 : decode cL_law 1716 = .ok (.aload_n 3, 1) := by decide +kernel
theorem dL_law_1717 : decode cL_law 1717 = .ok (.iconst 0, 1) := by decide +kernel
theorem dL_law_1718 : decode cL_law 1718 = .ok (.laload, 1) := by decide +kernel
theorem dL_law_1719 : decode cL_law 1719 = .ok (.iload 7, 2) := by decide +kernel
theorem dL_law_1721 : decode cL_law 1721 = .ok (.i2l, 1) := by decide +kernel
theorem dL_law_1722 : decode cL_law 1722 = .ok (.lcmp, 1) := by decide +kernel
theorem dL_law_1723 : decode cL_law 1723 = .ok (.ifCond .eq 5, 3) := by decide +kernel
theorem dL_law_1726 : decode cL_law 1726 = .ok (.iconst 0, 1) := by decide +kernel
theorem dL_law_1727 : decode cL_law 1727 = .ok (.ireturn, 1) := by decide +kernel
theorem dL_law_1728 : decode cL_law 1728 = .ok (.goto 1519, 3) := by decide +kernel
theorem dL_law_1731 : decode cL_law 1731 = .ok (.aload_n 1, 1) := by decide +kernel
theorem dL_law_1732 : decode cL_law 1732 = .ok (.aload_n 0, 1) := by decide +kernel
theorem dL_law_1733 : decode cL_law 1733 = .ok (.iload 5, 2) := by decide +kernel
theorem dL_law_1735 : decode cL_law 1735 = .ok (.iconst 1, 1) := by decide +kernel
theorem dL_law_1736 : decode cL_law 1736 = .ok (.iadd, 1) := by decide +kernel
theorem dL_law_1737 : decode cL_law 1737 = .ok (.iaload, 1) := by decide +kernel
theorem dL_law_1738 : decode cL_law 1738 = .ok (.aload_n 3, 1) := by decide +kernel
theorem dL_law_1739 : decode cL_law 1739 = .ok (.invokestatic 283, 3) := by decide +kernel
theorem dL_law_1742 : decode cL_law 1742 = .ok (.istore 6, 2) := by decide +kernel
theorem dL_law_1744 : decode cL_law 1744 = .ok (.aload_n 2, 1) := by decide +kernel
theorem dL_law_1745 : decode cL_law 1745 = .ok (.aload_n 0, 1) := by decide +kernel
theorem dL_law_1746 : decode cL_law 1746 = .ok (.iload 5, 2) := by decide +kernel
theorem dL_law_1748 : decode cL_law 1748 = .ok (.iconst 1, 1) := by decide +kernel
theorem dL_law_1749 : decode cL_law 1749 = .ok (.iadd, 1) := by decide +kernel
theorem dL_law_1750 : decode cL_law 1750 = .ok (.iaload, 1) := by decide +kernel
theorem dL_law_1751 : decode cL_law 1751 = .ok (.invokevirtual 285, 3) := by decide +kernel
theorem dL_law_1754 : decode cL_law 1754 = .ok (.lstore 7, 2) := by decide +kernel
theorem dL_law_1756 : decode cL_law 1756 = .ok (.aload_n 2, 1) := by decide +kernel
theorem dL_law_1757 : decode cL_law 1757 = .ok (.invokevirtual 184, 3) := by decide +kernel
theorem dL_law_1760 : decode cL_law 1760 = .ok (.iload 6, 2) := by decide +kernel
theorem dL_law_1762 : decode cL_law 1762 = .ok (.if_icmp .eq 5, 3) := by decide +kernel
theorem dL_law_1765 : decode cL_law 1765 = .ok (.iconst 0, 1) := by decide +kernel
theorem dL_law_1766 : decode cL_law 1766 = .ok (.ireturn, 1) := by decide +kernel
theorem dL_law_1767 : decode cL_law 1767 = .ok (.iload 6, 2) := by decide +kernel
theorem dL_law_1769 : decode cL_law 1769 = .ok (.ifCond .ne 14, 3) := by decide +kernel
theorem dL_law_1772 : decode cL_law 1772 = .ok (.aload_n 3, 1) := by decide +kernel
theorem dL_law_1773 : decode cL_law 1773 = .ok (.iconst 0, 1) := by decide +kernel
theorem dL_law_1774 : decode cL_law 1774 = .ok (.laload, 1) := by decide +kernel
theorem dL_law_1775 : decode cL_law 1775 = .ok (.lload 7, 2) := by decide +kernel
theorem dL_law_1777 : decode cL_law 1777 = .ok (.lcmp, 1) := by decide +kernel
theorem dL_law_1778 : decode cL_law 1778 = .ok (.ifCond .eq 5, 3) := by decide +kernel
theorem dL_law_1781 : decode cL_law 1781 = .ok (.iconst 0, 1) := by decide +kernel
theorem dL_law_1782 : decode cL_law 1782 = .ok (.ireturn, 1) := by decide +kernel
theorem dL_law_1783 : decode cL_law 1783 = .ok (.goto 1464, 3) := by decide +kernel
theorem dL_law_1786 : decode cL_law 1786 = .ok (.aload_n 1, 1) := by decide +kernel
theorem dL_law_1787 : decode cL_law 1787 = .ok (.aload_n 0, 1) := by decide +kernel
theorem dL_law_1788 : decode cL_law 1788 = .ok (.iload 5, 2) := by decide +kernel
theorem dL_law_1790 : decode cL_law 1790 = .ok (.iconst 1, 1) := by decide +kernel
theorem dL_law_1791 : decode cL_law 1791 = .ok (.iadd, 1) := by decide +kernel
theorem dL_law_1792 : decode cL_law 1792 = .ok (.iaload, 1) := by decide +kernel
theorem dL_law_1793 : decode cL_law 1793 = .ok (.aload_n 3, 1) := by decide +kernel
theorem dL_law_1794 : decode cL_law 1794 = .ok (.invokestatic 286, 3) := by decide +kernel
theorem dL_law_1797 : decode cL_law 1797 = .ok (.istore 6, 2) := by decide +kernel
theorem dL_law_1799 : decode cL_law 1799 = .ok (.aload_n 2, 1) := by decide +kernel
theorem dL_law_1800 : decode cL_law 1800 = .ok (.aload_n 0, 1) := by decide +kernel
theorem dL_law_1801 : decode cL_law 1801 = .ok (.iload 5, 2) := by decide +kernel
theorem dL_law_1803 : decode cL_law 1803 = .ok (.iconst 1, 1) := by decide +kernel
theorem dL_law_1804 : decode cL_law 1804 = .ok (.iadd, 1) := by decide +kernel
theorem dL_law_1805 : decode cL_law 1805 = .ok (.iaload, 1) := by decide +kernel
theorem dL_law_1806 : decode cL_law 1806 = .ok (.invokevirtual 288, 3) := by decide +kernel
theorem dL_law_1809 : decode cL_law 1809 = .ok (.istore 7, 2) := by decide +kernel
theorem dL_law_1811 : decode cL_law 1811 = .ok (.aload_n 2, 1) := by decide +kernel
theorem dL_law_1812 : decode cL_law 1812 = .ok (.invokevirtual 184, 3) := by decide +kernel
theorem dL_law_1815 : decode cL_law 1815 = .ok (.iload 6, 2) := by decide +kernel
theorem dL_law_1817 : decode cL_law 1817 = .ok (.if_icmp .eq 5, 3) := by decide +kernel
theorem dL_law_1820 : decode cL_law 1820 = .ok (.iconst 0, 1) := by decide +kernel
theorem dL_law_1821 : decode cL_law 1821 = .ok (.ireturn, 1) := by decide +kernel
theorem dL_law_1822 : decode cL_law 1822 = .ok (.iload 6, 2) := by decide +kernel
theorem dL_law_1824 : decode cL_law 1824 = .ok (.ifCond .ne 15, 3) := by decide +kernel
theorem dL_law_1827 : decode cL_law 1827 = .ok (.aload_n 3, 1) := by decide +kernel
theorem dL_law_1828 : decode cL_law 1828 = .ok (.iconst 0, 1) := by decide +kernel
theorem dL_law_1829 : decode cL_law 1829 = .ok (.laload, 1) := by decide +kernel
theorem dL_law_1830 : decode cL_law 1830 = .ok (.iload 7, 2) := by decide +kernel
theorem dL_law_1832 : decode cL_law 1832 = .ok (.i2l, 1) := by decide +kernel
theorem dL_law_1833 : decode cL_law 1833 = .ok (.lcmp, 1) := by decide +kernel
theorem dL_law_1834 : decode cL_law 1834 = .ok (.ifCond .eq 5, 3) := by decide +kernel
theorem dL_law_1837 : decode cL_law 1837 = .ok (.iconst 0, 1) := by decide +kernel
theorem dL_law_1838 : decode cL_law 1838 = .ok (.ireturn, 1) := by decide +kernel
theorem dL_law_1839 : decode cL_law 1839 = .ok (.goto 1408, 3) := by decide +kernel
theorem dL_law_1842 : decode cL_law 1842 = .ok (.aload_n 1, 1) := by decide +kernel
theorem dL_law_1843 : decode cL_law 1843 = .ok (.aload_n 0, 1) := by decide +kernel
theorem dL_law_1844 : decode cL_law 1844 = .ok (.iload 5, 2) := by decide +kernel
theorem dL_law_1846 : decode cL_law 1846 = .ok (.iconst 1, 1) := by decide +kernel
theorem dL_law_1847 : decode cL_law 1847 = .ok (.iadd, 1) := by decide +kernel
theorem dL_law_1848 : decode cL_law 1848 = .ok (.iaload, 1) := by decide +kernel
theorem dL_law_1849 : decode cL_law 1849 = .ok (.aload_n 3, 1) := by decide +kernel
theorem dL_law_1850 : decode cL_law 1850 = .ok (.invokestatic 289, 3) := by decide +kernel
theorem dL_law_1853 : decode cL_law 1853 = .ok (.istore 6, 2) := by decide +kernel
theorem dL_law_1855 : decode cL_law 1855 = .ok (.aload_n 2, 1) := by decide +kernel
theorem dL_law_1856 : decode cL_law 1856 = .ok (.aload_n 0, 1) := by decide +kernel
theorem dL_law_1857 : decode cL_law 1857 = .ok (.iload 5, 2) := by decide +kernel
theorem dL_law_1859 : decode cL_law 1859 = .ok (.iconst 1, 1) := by decide +kernel
theorem dL_law_1860 : decode cL_law 1860 = .ok (.iadd, 1) := by decide +kernel
theorem dL_law_1861 : decode cL_law 1861 = .ok (.iaload, 1) := by decide +kernel
theorem dL_law_1862 : decode cL_law 1862 = .ok (.invokevirtual 291, 3) := by decide +kernel
theorem dL_law_1865 : decode cL_law 1865 = .ok (.istore 7, 2) := by decide +kernel
theorem dL_law_1867 : decode cL_law 1867 = .ok (.aload_n 2, 1) := by decide +kernel
theorem dL_law_1868 : decode cL_law 1868 = .ok (.invokevirtual 184, 3) := by decide +kernel
theorem dL_law_1871 : decode cL_law 1871 = .ok (.iload 6, 2) := by decide +kernel
theorem dL_law_1873 : decode cL_law 1873 = .ok (.if_icmp .eq 5, 3) := by decide +kernel
theorem dL_law_1876 : decode cL_law 1876 = .ok (.iconst 0, 1) := by decide +kernel
theorem dL_law_1877 : decode cL_law 1877 = .ok (.ireturn, 1) := by decide +kernel
theorem dL_law_1878 : decode cL_law 1878 = .ok (.iload 6, 2) := by decide +kernel
theorem dL_law_1880 : decode cL_law 1880 = .ok (.ifCond .ne 22, 3) := by decide +kernel
theorem dL_law_1883 : decode cL_law 1883 = .ok (.aload_n 3, 1) := by decide +kernel
theorem dL_law_1884 : decode cL_law 1884 = .ok (.iconst 0, 1) := by decide +kernel
theorem dL_law_1885 : decode cL_law 1885 = .ok (.laload, 1) := by decide +kernel
theorem dL_law_1886 : decode cL_law 1886 = .ok (.iload 7, 2) := by decide +kernel
theorem dL_law_1888 : decode cL_law 1888 = .ok (.ifCond .eq 7, 3) := by decide +kernel
theorem dL_law_1891 : decode cL_law 1891 = .ok (.lconst 1, 1) := by decide +kernel
theorem dL_law_1892 : decode cL_law 1892 = .ok (.goto 4, 3) := by decide +kernel
theorem dL_law_1895 : decode cL_law 1895 = .ok (.lconst 0, 1) := by decide +kernel
theorem dL_law_1896 : decode cL_law 1896 = .ok (.lcmp, 1) := by decide +kernel
theorem dL_law_1897 : decode cL_law 1897 = .ok (.ifCond .eq 5, 3) := by decide +kernel
theorem dL_law_1900 : decode cL_law 1900 = .ok (.iconst 0, 1) := by decide +kernel
theorem dL_law_1901 : decode cL_law 1901 = .ok (.ireturn, 1) := by decide +kernel
theorem dL_law_1902 : decode cL_law 1902 = .ok (.goto 1345, 3) := by decide +kernel
theorem dL_law_1905 : decode cL_law 1905 = .ok (.aload_n 1, 1) := by decide +kernel
theorem dL_law_1906 : decode cL_law 1906 = .ok (.invokevirtual 292, 3) := by decide +kernel
theorem dL_law_1909 : decode cL_law 1909 = .ok (.aload_n 2, 1) := by decide +kernel
theorem dL_law_1910 : decode cL_law 1910 = .ok (.invokevirtual 295, 3) := by decide +kernel
theorem dL_law_1913 : decode cL_law 1913 = .ok (.if_icmp .eq 1334, 3) := by decide +kernel
theorem dL_law_1916 : decode cL_law 1916 = .ok (.iconst 0, 1) := by decide +kernel
theorem dL_law_1917 : decode cL_law 1917 = .ok (.ireturn, 1) := by decide +kernel
theorem dL_law_1918 : decode cL_law 1918 = .ok (.aload_n 1, 1) := by decide +kernel
theorem dL_law_1919 : decode cL_law 1919 = .ok (.aload_n 0, 1) := by decide +kernel
theorem dL_law_1920 : decode cL_law 1920 = .ok (.iload 5, 2) := by decide +kernel
theorem dL_law_1922 : decode cL_law 1922 = .ok (.iconst 1, 1) := by decide +kernel
theorem dL_law_1923 : decode cL_law 1923 = .ok (.iadd, 1) := by decide +kernel
theorem dL_law_1924 : decode cL_law 1924 = .ok (.iaload, 1) := by decide +kernel
theorem dL_law_1925 : decode cL_law 1925 = .ok (.aload_n 3, 1) := by decide +kernel
theorem dL_law_1926 : decode cL_law 1926 = .ok (.invokestatic 296, 3) := by decide +kernel
theorem dL_law_1929 : decode cL_law 1929 = .ok (.istore 6, 2) := by decide +kernel
theorem dL_law_1931 : decode cL_law 1931 = .ok (.aload_n 2, 1) := by decide +kernel
theorem dL_law_1932 : decode cL_law 1932 = .ok (.aload_n 0, 1) := by decide +kernel
theorem dL_law_1933 : decode cL_law 1933 = .ok (.iload 5, 2) := by decide +kernel
theorem dL_law_1935 : decode cL_law 1935 = .ok (.iconst 1, 1) := by decide +kernel
theorem dL_law_1936 : decode cL_law 1936 = .ok (.iadd, 1) := by decide +kernel
theorem dL_law_1937 : decode cL_law 1937 = .ok (.iaload, 1) := by decide +kernel
theorem dL_law_1938 : decode cL_law 1938 = .ok (.invokevirtual 298, 3) := by decide +kernel
theorem dL_law_1941 : decode cL_law 1941 = .ok (.istore 7, 2) := by decide +kernel
theorem dL_law_1943 : decode cL_law 1943 = .ok (.aload_n 2, 1) := by decide +kernel
theorem dL_law_1944 : decode cL_law 1944 = .ok (.invokevirtual 184, 3) := by decide +kernel
theorem dL_law_1947 : decode cL_law 1947 = .ok (.iload 6, 2) := by decide +kernel
theorem dL_law_1949 : decode cL_law 1949 = .ok (.if_icmp .eq 5, 3) := by decide +kernel
theorem dL_law_1952 : decode cL_law 1952 = .ok (.iconst 0, 1) := by decide +kernel
theorem dL_law_1953 : decode cL_law 1953 = .ok (.ireturn, 1) := by decide +kernel
theorem dL_law_1954 : decode cL_law 1954 = .ok (.iload 6, 2) := by decide +kernel
theorem dL_law_1956 : decode cL_law 1956 = .ok (.ifCond .ne 15, 3) := by decide +kernel
theorem dL_law_1959 : decode cL_law 1959 = .ok (.aload_n 3, 1) := by decide +kernel
theorem dL_law_1960 : decode cL_law 1960 = .ok (.iconst 0, 1) := by decide +kernel
theorem dL_law_1961 : decode cL_law 1961 = .ok (.laload, 1) := by decide +kernel
theorem dL_law_1962 : decode cL_law 1962 = .ok (.iload 7, 2) := by decide +kernel
theorem dL_law_1964 : decode cL_law 1964 = .ok (.i2l, 1) := by decide +kernel
theorem dL_law_1965 : decode cL_law 1965 = .ok (.lcmp, 1) := by decide +kernel
theorem dL_law_1966 : decode cL_law 1966 = .ok (.ifCond .eq 5, 3) := by decide +kernel
theorem dL_law_1969 : decode cL_law 1969 = .ok (.iconst 0, 1) := by decide +kernel
theorem dL_law_1970 : decode cL_law 1970 = .ok (.ireturn, 1) := by decide +kernel
theorem dL_law_1971 : decode cL_law 1971 = .ok (.goto 1276, 3) := by decide +kernel
theorem dL_law_1974 : decode cL_law 1974 = .ok (.aload_n 1, 1) := by decide +kernel
theorem dL_law_1975 : decode cL_law 1975 = .ok (.aload_n 0, 1) := by decide +kernel
theorem dL_law_1976 : decode cL_law 1976 = .ok (.iload 5, 2) := by decide +kernel
theorem dL_law_1978 : decode cL_law 1978 = .ok (.iconst 1, 1) := by decide +kernel
theorem dL_law_1979 : decode cL_law 1979 = .ok (.iadd, 1) := by decide +kernel
theorem dL_law_1980 : decode cL_law 1980 = .ok (.iaload, 1) := by decide +kernel
theorem dL_law_1981 : decode cL_law 1981 = .ok (.aload_n 3, 1) := by decide +kernel
theorem dL_law_1982 : decode cL_law 1982 = .ok (.invokestatic 299, 3) := by decide +kernel
theorem dL_law_1985 : decode cL_law 1985 = .ok (.istore 6, 2) := by decide +kernel
theorem dL_law_1987 : decode cL_law 1987 = .ok (.aload_n 2, 1) := by decide +kernel
theorem dL_law_1988 : decode cL_law 1988 = .ok (.aload_n 0, 1) := by decide +kernel
theorem dL_law_1989 : decode cL_law 1989 = .ok (.iload 5, 2) := by decide +kernel
theorem dL_law_1991 : decode cL_law 1991 = .ok (.iconst 1, 1) := by decide +kernel
theorem dL_law_1992 : decode cL_law 1992 = .ok (.iadd, 1) := by decide +kernel
theorem dL_law_1993 : decode cL_law 1993 = .ok (.iaload, 1) := by decide +kernel
theorem dL_law_1994 : decode cL_law 1994 = .ok (.invokevirtual 301, 3) := by decide +kernel
theorem dL_law_1997 : decode cL_law 1997 = .ok (.istore 7, 2) := by decide +kernel
theorem dL_law_1999 : decode cL_law 1999 = .ok (.aload_n 2, 1) := by decide +kernel
theorem dL_law_2000 : decode cL_law 2000 = .ok (.invokevirtual 184, 3) := by decide +kernel
theorem dL_law_2003 : decode cL_law 2003 = .ok (.iload 6, 2) := by decide +kernel
theorem dL_law_2005 : decode cL_law 2005 = .ok (.if_icmp .eq 5, 3) := by decide +kernel
theorem dL_law_2008 : decode cL_law 2008 = .ok (.iconst 0, 1) := by decide +kernel
theorem dL_law_2009 : decode cL_law 2009 = .ok (.ireturn, 1) := by decide +kernel
theorem dL_law_2010 : decode cL_law 2010 = .ok (.iload 6, 2) := by decide +kernel
theorem dL_law_2012 : decode cL_law 2012 = .ok (.ifCond .ne 15, 3) := by decide +kernel
theorem dL_law_2015 : decode cL_law 2015 = .ok (.aload_n 3, 1) := by decide +kernel
theorem dL_law_2016 : decode cL_law 2016 = .ok (.iconst 0, 1) := by decide +kernel
theorem dL_law_2017 : decode cL_law 2017 = .ok (.laload, 1) := by decide +kernel
theorem dL_law_2018 : decode cL_law 2018 = .ok (.iload 7, 2) := by decide +kernel
theorem dL_law_2020 : decode cL_law 2020 = .ok (.i2l, 1) := by decide +kernel
theorem dL_law_2021 : decode cL_law 2021 = .ok (.lcmp, 1) := by decide +kernel
theorem dL_law_2022 : decode cL_law 2022 = .ok (.ifCond .eq 5, 3) := by decide +kernel
theorem dL_law_2025 : decode cL_law 2025 = .ok (.iconst 0, 1) := by decide +kernel
theorem dL_law_2026 : decode cL_law 2026 = .ok (.ireturn, 1) := by decide +kernel
theorem dL_law_2027 : decode cL_law 2027 = .ok (.goto 1220, 3) := by decide +kernel
theorem dL_law_2030 : decode cL_law 2030 = .ok (.aload_n 1, 1) := by decide +kernel
theorem dL_law_2031 : decode cL_law 2031 = .ok (.aload_n 0, 1) := by decide +kernel
theorem dL_law_2032 : decode cL_law 2032 = .ok (.iload 5, 2) := by decide +kernel
theorem dL_law_2034 : decode cL_law 2034 = .ok (.iconst 1, 1) := by decide +kernel
theorem dL_law_2035 : decode cL_law 2035 = .ok (.iadd, 1) := by decide +kernel
theorem dL_law_2036 : decode cL_law 2036 = .ok (.iaload, 1) := by decide +kernel
theorem dL_law_2037 : decode cL_law 2037 = .ok (.aload_n 3, 1) := by decide +kernel
theorem dL_law_2038 : decode cL_law 2038 = .ok (.invokestatic 302, 3) := by decide +kernel
theorem dL_law_2041 : decode cL_law 2041 = .ok (.istore 6, 2) := by decide +kernel
theorem dL_law_2043 : decode cL_law 2043 = .ok (.aload_n 2, 1) := by decide +kernel
theorem dL_law_2044 : decode cL_law 2044 = .ok (.aload_n 0, 1) := by decide +kernel
theorem dL_law_2045 : decode cL_law 2045 = .ok (.iload 5, 2) := by decide +kernel
theorem dL_law_2047 : decode cL_law 2047 = .ok (.iconst 1, 1) := by decide +kernel
theorem dL_law_2048 : decode cL_law 2048 = .ok (.iadd, 1) := by decide +kernel
theorem dL_law_2049 : decode cL_law 2049 = .ok (.iaload, 1) := by decide +kernel
theorem dL_law_2050 : decode cL_law 2050 = .ok (.invokevirtual 304, 3) := by decide +kernel
theorem dL_law_2053 : decode cL_law 2053 = .ok (.lstore 7, 2) := by decide +kernel
theorem dL_law_2055 : decode cL_law 2055 = .ok (.aload_n 2, 1) := by decide +kernel
theorem dL_law_2056 : decode cL_law 2056 = .ok (.invokevirtual 184, 3) := by decide +kernel
theorem dL_law_2059 : decode cL_law 2059 = .ok (.iload 6, 2) := by decide +kernel
theorem dL_law_2061 : decode cL_law 2061 = .ok (.if_icmp .eq 5, 3) := by decide +kernel
theorem dL_law_2064 : decode cL_law 2064 = .ok (.iconst 0, 1) := by decide +kernel
theorem dL_law_2065 : decode cL_law 2065 = .ok (.ireturn, 1) := by decide +kernel
theorem dL_law_2066 : decode cL_law 2066 = .ok (.iload 6, 2) := by decide +kernel
theorem dL_law_2068 : decode cL_law 2068 = .ok (.ifCond .ne 14, 3) := by decide +kernel
theorem dL_law_2071 : decode cL_law 2071 = .ok (.aload_n 3, 1) := by decide +kernel
theorem dL_law_2072 : decode cL_law 2072 = .ok (.iconst 0, 1) := by decide +kernel
theorem dL_law_2073 : decode cL_law 2073 = .ok (.laload, 1) := by decide +kernel
theorem dL_law_2074 : decode cL_law 2074 = .ok (.lload 7, 2) := by decide +kernel
theorem dL_law_2076 : decode cL_law 2076 = .ok (.lcmp, 1) := by decide +kernel
theorem dL_law_2077 : decode cL_law 2077 = .ok (.ifCond .eq 5, 3) := by decide +kernel
theorem dL_law_2080 : decode cL_law 2080 = .ok (.iconst 0, 1) := by decide +kernel
theorem dL_law_2081 : decode cL_law 2081 = .ok (.ireturn, 1) := by decide +kernel
theorem dL_law_2082 : decode cL_law 2082 = .ok (.goto 1165, 3) := by decide +kernel
theorem dL_law_2085 : decode cL_law 2085 = .ok (.aload_n 1, 1) := by decide +kernel
theorem dL_law_2086 : decode cL_law 2086 = .ok (.invokevirtual 305, 3) := by decide +kernel
theorem dL_law_2089 : decode cL_law 2089 = .ok (.aload_n 2, 1) := by decide +kernel
theorem dL_law_2090 : decode cL_law 2090 = .ok (.invokevirtual 308, 3) := by decide +kernel
theorem dL_law_2093 : decode cL_law 2093 = .ok (.if_icmp .eq 1154, 3) := by decide +kernel
theorem dL_law_2096 : decode cL_law 2096 = .ok (.iconst 0, 1) := by decide +kernel
theorem dL_law_2097 : decode cL_law 2097 = .ok (.ireturn, 1) := by decide +kernel
theorem dL_law_2098 : decode cL_law 2098 = .ok (.aload_n 1, 1) := by decide +kernel
theorem dL_law_2099 : decode cL_law 2099 = .ok (.invokevirtual 309, 3) := by decide +kernel
theorem dL_law_2102 : decode cL_law 2102 = .ok (.aload_n 2, 1) := by decide +kernel
theorem dL_law_2103 : decode cL_law 2103 = .ok (.invokevirtual 312, 3) := by decide +kernel
theorem dL_law_2106 : decode cL_law 2106 = .ok (.if_icmp .eq 1141, 3) := by decide +kernel
theorem dL_law_2109 : decode cL_law 2109 = .ok (.iconst 0, 1) := by decide +kernel
theorem dL_law_2110 : decode cL_law 2110 = .ok (.ireturn, 1) := by decide +kernel
theorem dL_law_2111 : decode cL_law 2111 = .ok (.aload_n 1, 1) := by decide +kernel
theorem dL_law_2112 : decode cL_law 2112 = .ok (.aload_n 0, 1) := by decide +kernel
theorem dL_law_2113 : decode cL_law 2113 = .ok (.iload 5, 2) := by decide +kernel
theorem dL_law_2115 : decode cL_law 2115 = .ok (.iconst 1, 1) := by decide +kernel
theorem dL_law_2116 : decode cL_law 2116 = .ok (.iadd, 1) := by decide +kernel
theorem dL_law_2117 : decode cL_law 2117 = .ok (.iaload, 1) := by decide +kernel
theorem dL_law_2118 : decode cL_law 2118 = .ok (.aload_n 3, 1) := by decide +kernel
theorem dL_law_2119 : decode cL_law 2119 = .ok (.invokestatic 313, 3) := by decide +kernel
theorem dL_law_2122 : decode cL_law 2122 = .ok (.istore 6, 2) := by decide +kernel
theorem dL_law_2124 : decode cL_law 2124 = .ok (.aload_n 2, 1) := by decide +kernel
theorem dL_law_2125 : decode cL_law 2125 = .ok (.aload_n 0, 1) := by decide +kernel
theorem dL_law_2126 : decode cL_law 2126 = .ok (.iload 5, 2) := by decide +kernel
theorem dL_law_2128 : decode cL_law 2128 = .ok (.iconst 1, 1) := by decide +kernel
theorem dL_law_2129 : decode cL_law 2129 = .ok (.iadd, 1) := by decide +kernel
theorem dL_law_2130 : decode cL_law 2130 = .ok (.iaload, 1) := by decide +kernel
theorem dL_law_2131 : decode cL_law 2131 = .ok (.invokevirtual 315, 3) := by decide +kernel
theorem dL_law_2134 : decode cL_law 2134 = .ok (.istore 7, 2) := by decide +kernel
theorem dL_law_2136 : decode cL_law 2136 = .ok (.aload_n 2, 1) := by decide +kernel
theorem dL_law_2137 : decode cL_law 2137 = .ok (.invokevirtual 184, 3) := by decide +kernel
theorem dL_law_2140 : decode cL_law 2140 = .ok (.iload 6, 2) := by decide +kernel
theorem dL_law_2142 : decode cL_law 2142 = .ok (.if_icmp .eq 5, 3) := by decide +kernel
theorem dL_law_2145 : decode cL_law 2145 = .ok (.iconst 0, 1) := by decide +kernel
theorem dL_law_2146 : decode cL_law 2146 = .ok (.ireturn, 1) := by decide +kernel
theorem dL_law_2147 : decode cL_law 2147 = .ok (.iload 6, 2) := by decide +kernel
theorem dL_law_2149 : decode cL_law 2149 = .ok (.ifCond .ne 15, 3) := by decide +kernel
theorem dL_law_2152 : decode cL_law 2152 = .ok (.aload_n 3, 1) := by decide +kernel
theorem dL_law_2153 : decode cL_law 2153 = .ok (.iconst 0, 1) := by decide +kernel
theorem dL_law_2154 : decode cL_law 2154 = .ok (.laload, 1) := by decide +kernel
theorem dL_law_2155 : decode cL_law 2155 = .ok (.iload 7, 2) := by decide +kernel
theorem dL_law_2157 : decode cL_law 2157 = .ok (.i2l, 1) := by decide +kernel
theorem dL_law_2158 : decode cL_law 2158 = .ok (.lcmp, 1) := by decide +kernel
theorem dL_law_2159 : decode cL_law 2159 = .ok (.ifCond .eq 5, 3) := by decide +kernel
theorem dL_law_2162 : decode cL_law 2162 = .ok (.iconst 0, 1) := by decide +kernel
theorem dL_law_2163 : decode cL_law 2163 = .ok (.ireturn, 1) := by decide +kernel
theorem dL_law_2164 : decode cL_law 2164 = .ok (.goto 1083, 3) := by decide +kernel
theorem dL_law_2167 : decode cL_law 2167 = .ok (.aload_n 1, 1) := by decide +kernel
theorem dL_law_2168 : decode cL_law 2168 = .ok (.aload_n 0, 1) := by decide +kernel
theorem dL_law_2169 : decode cL_law 2169 = .ok (.iload 5, 2) := by decide +kernel
theorem dL_law_2171 : decode cL_law 2171 = .ok (.iconst 1, 1) := by decide +kernel
theorem dL_law_2172 : decode cL_law 2172 = .ok (.iadd, 1) := by decide +kernel
theorem dL_law_2173 : decode cL_law 2173 = .ok (.iaload, 1) := by decide +kernel
theorem dL_law_2174 : decode cL_law 2174 = .ok (.aload_n 3, 1) := by decide +kernel
theorem dL_law_2175 : decode cL_law 2175 = .ok (.invokestatic 316, 3) := by decide +kernel
theorem dL_law_2178 : decode cL_law 2178 = .ok (.istore 6, 2) := by decide +kernel
theorem dL_law_2180 : decode cL_law 2180 = .ok (.aload_n 2, 1) := by decide +kernel
theorem dL_law_2181 : decode cL_law 2181 = .ok (.aload_n 0, 1) := by decide +kernel
theorem dL_law_2182 : decode cL_law 2182 = .ok (.iload 5, 2) := by decide +kernel
theorem dL_law_2184 : decode cL_law 2184 = .ok (.iconst 1, 1) := by decide +kernel
theorem dL_law_2185 : decode cL_law 2185 = .ok (.iadd, 1) := by decide +kernel
theorem dL_law_2186 : decode cL_law 2186 = .ok (.iaload, 1) := by decide +kernel
theorem dL_law_2187 : decode cL_law 2187 = .ok (.invokevirtual 318, 3) := by decide +kernel
theorem dL_law_2190 : decode cL_law 2190 = .ok (.istore 7, 2) := by decide +kernel
theorem dL_law_2192 : decode cL_law 2192 = .ok (.aload_n 2, 1) := by decide +kernel
theorem dL_law_2193 : decode cL_law 2193 = .ok (.invokevirtual 184, 3) := by decide +kernel
theorem dL_law_2196 : decode cL_law 2196 = .ok (.iload 6, 2) := by decide +kernel
theorem dL_law_2198 : decode cL_law 2198 = .ok (.if_icmp .eq 5, 3) := by decide +kernel
theorem dL_law_2201 : decode cL_law 2201 = .ok (.iconst 0, 1) := by decide +kernel
theorem dL_law_2202 : decode cL_law 2202 = .ok (.ireturn, 1) := by decide +kernel
theorem dL_law_2203 : decode cL_law 2203 = .ok (.iload 6, 2) := by decide +kernel
theorem dL_law_2205 : decode cL_law 2205 = .ok (.ifCond .ne 15, 3) := by decide +kernel
theorem dL_law_2208 : decode cL_law 2208 = .ok (.aload_n 3, 1) := by decide +kernel
theorem dL_law_2209 : decode cL_law 2209 = .ok (.iconst 0, 1) := by decide +kernel
theorem dL_law_2210 : decode cL_law 2210 = .ok (.laload, 1) := by decide +kernel
theorem dL_law_2211 : decode cL_law 2211 = .ok (.iload 7, 2) := by decide +kernel
theorem dL_law_2213 : decode cL_law 2213 = .ok (.i2l, 1) := by decide +kernel
theorem dL_law_2214 : decode cL_law 2214 = .ok (.lcmp, 1) := by decide +kernel
theorem dL_law_2215 : decode cL_law 2215 = .ok (.ifCond .eq 5, 3) := by decide +kernel
theorem dL_law_2218 : decode cL_law 2218 = .ok (.iconst 0, 1) := by decide +kernel
theorem dL_law_2219 : decode cL_law 2219 = .ok (.ireturn, 1) := by decide +kernel
theorem dL_law_2220 : decode cL_law 2220 = .ok (.goto 1027, 3) := by decide +kernel
theorem dL_law_2223 : decode cL_law 2223 = .ok (.aload_n 1, 1) := by decide +kernel
theorem dL_law_2224 : decode cL_law 2224 = .ok (.aload 4, 2) := by decide +kernel
theorem dL_law_2226 : decode cL_law 2226 = .ok (.invokestatic 319, 3) := by decide +kernel
theorem dL_law_2229 : decode cL_law 2229 = .ok (.istore 6, 2) := by decide +kernel
theorem dL_law_2231 : decode cL_law 2231 = .ok (.aload_n 2, 1) := by decide +kernel
theorem dL_law_2232 : decode cL_law 2232 = .ok (.invokevirtual 322, 3) := by decide +kernel
theorem dL_law_2235 : decode cL_law 2235 = .ok (.dstore 7, 2) := by decide +kernel
theorem dL_law_2237 : decode cL_law 2237 = .ok (.aload_n 2, 1) := by decide +kernel
theorem dL_law_2238 : decode cL_law 2238 = .ok (.invokevirtual 184, 3) := by decide +kernel
theorem dL_law_2241 : decode cL_law 2241 = .ok (.iload 6, 2) := by decide +kernel
theorem dL_law_2243 : decode cL_law 2243 = .ok (.if_icmp .eq 5, 3) := by decide +kernel
theorem dL_law_2246 : decode cL_law 2246 = .ok (.iconst 0, 1) := by decide +kernel
theorem dL_law_2247 : decode cL_law 2247 = .ok (.ireturn, 1) := by decide +kernel
theorem dL_law_2248 : decode cL_law 2248 = .ok (.iload 6, 2) := by decide +kernel
theorem dL_law_2250 : decode cL_law 2250 = .ok (.ifCond .ne 35, 3) := by decide +kernel
theorem dL_law_2253 : decode cL_law 2253 = .ok (.aload 4, 2) := by decide +kernel
theorem dL_law_2255 : decode cL_law 2255 = .ok (.iconst 0, 1) := by decide +kernel
theorem dL_law_2256 : decode cL_law 2256 = .ok (.daload, 1) := by decide +kernel
theorem dL_law_2257 : decode cL_law 2257 = .ok (.dload 7, 2) := by decide +kernel
theorem dL_law_2259 : decode cL_law 2259 = .ok (.dcmp .l, 1) := by decide +kernel
theorem dL_law_2260 : decode cL_law 2260 = .ok (.ifCond .eq 25, 3) := by decide +kernel
theorem dL_law_2263 : decode cL_law 2263 = .ok (.aload 4, 2) := by decide +kernel
theorem dL_law_2265 : decode cL_law 2265 = .ok (.iconst 0, 1) := by decide +kernel
theorem dL_law_2266 : decode cL_law 2266 = .ok (.daload, 1) := by decide +kernel
theorem dL_law_2267 : decode cL_law 2267 = .ok (.aload 4, 2) := by decide +kernel
theorem dL_law_2269 : decode cL_law 2269 = .ok (.iconst 0, 1) := by decide +kernel
theorem dL_law_2270 : decode cL_law 2270 = .ok (.daload, 1) := by decide +kernel
theorem dL_law_2271 : decode cL_law 2271 = .ok (.dcmp .l, 1) := by decide +kernel
theorem dL_law_2272 : decode cL_law 2272 = .ok (.ifCond .eq 11, 3) := by decide +kernel
theorem dL_law_2275 : decode cL_law 2275 = .ok (.dload 7, 2) := by decide +kernel
theorem dL_law_2277 : decode cL_law 2277 = .ok (.dload 7, 2) := by decide +kernel
theorem dL_law_2279 : decode cL_law 2279 = .ok (.dcmp .l, 1) := by decide +kernel
theorem dL_law_2280 : decode cL_law 2280 = .ok (.ifCond .ne 5, 3) := by decide +kernel
theorem dL_law_2283 : decode cL_law 2283 = .ok (.iconst 0, 1) := by decide +kernel
theorem dL_law_2284 : decode cL_law 2284 = .ok (.ireturn, 1) := by decide +kernel
theorem dL_law_2285 : decode cL_law 2285 = .ok (.goto 962, 3) := by decide +kernel
theorem dL_law_2288 : decode cL_law 2288 = .ok (.aload_n 1, 1) := by decide +kernel
theorem dL_law_2289 : decode cL_law 2289 = .ok (.invokevirtual 323, 3) := by decide +kernel
theorem dL_law_2292 : decode cL_law 2292 = .ok (.aload_n 2, 1) := by decide +kernel
theorem dL_law_2293 : decode cL_law 2293 = .ok (.invokevirtual 326, 3) := by decide +kernel
theorem dL_law_2296 : decode cL_law 2296 = .ok (.if_icmp .eq 951, 3) := by decide +kernel
theorem dL_law_2299 : decode cL_law 2299 = .ok (.iconst 0, 1) := by decide +kernel
theorem dL_law_2300 : decode cL_law 2300 = .ok (.ireturn, 1) := by decide +kernel
theorem dL_law_2301 : decode cL_law 2301 = .ok (.aload_n 1, 1) := by decide +kernel
theorem dL_law_2302 : decode cL_law 2302 = .ok (.aload_n 0, 1) := by decide +kernel
theorem dL_law_2303 : decode cL_law 2303 = .ok (.iload 5, 2) := by decide +kernel
theorem dL_law_2305 : decode cL_law 2305 = .ok (.iconst 1, 1) := by decide +kernel
theorem dL_law_2306 : decode cL_law 2306 = .ok (.iadd, 1) := by decide +kernel
theorem dL_law_2307 : decode cL_law 2307 = .ok (.iaload, 1) := by decide +kernel
theorem dL_law_2308 : decode cL_law 2308 = .ok (.aload_n 3, 1) := by decide +kernel
theorem dL_law_2309 : decode cL_law 2309 = .ok (.invokestatic 327, 3) := by decide +kernel
theorem dL_law_2312 : decode cL_law 2312 = .ok (.istore 6, 2) := by decide +kernel
theorem dL_law_2314 : decode cL_law 2314 = .ok (.aload_n 2, 1) := by decide +kernel
theorem dL_law_2315 : decode cL_law 2315 = .ok (.aload_n 0, 1) := by decide +kernel
theorem dL_law_2316 : decode cL_law 2316 = .ok (.iload 5, 2) := by decide +kernel
theorem dL_law_2318 : decode cL_law 2318 = .ok (.iconst 1, 1) := by decide +kernel
theorem dL_law_2319 : decode cL_law 2319 = .ok (.iadd, 1) := by decide +kernel
theorem dL_law_2320 : decode cL_law 2320 = .ok (.iaload, 1) := by decide +kernel
theorem dL_law_2321 : decode cL_law 2321 = .ok (.invokevirtual 329, 3) := by decide +kernel
theorem dL_law_2324 : decode cL_law 2324 = .ok (.istore 7, 2) := by decide +kernel
theorem dL_law_2326 : decode cL_law 2326 = .ok (.aload_n 2, 1) := by decide +kernel
theorem dL_law_2327 : decode cL_law 2327 = .ok (.invokevirtual 184, 3) := by decide +kernel
theorem dL_law_2330 : decode cL_law 2330 = .ok (.iload 6, 2) := by decide +kernel
theorem dL_law_2332 : decode cL_law 2332 = .ok (.if_icmp .eq 5, 3) := by decide +kernel
theorem dL_law_2335 : decode cL_law 2335 = .ok (.iconst 0, 1) := by decide +kernel
theorem dL_law_2336 : decode cL_law 2336 = .ok (.ireturn, 1) := by decide +kernel
theorem dL_law_2337 : decode cL_law 2337 = .ok (.iload 6, 2) := by decide +kernel
theorem dL_law_2339 : decode cL_law 2339 = .ok (.ifCond .ne 15, 3) := by decide +kernel
theorem dL_law_2342 : decode cL_law 2342 = .ok (.aload_n 3, 1) := by decide +kernel
theorem dL_law_2343 : decode cL_law 2343 = .ok (.iconst 0, 1) := by decide +kernel
theorem dL_law_2344 : decode cL_law 2344 = .ok (.laload, 1) := by decide +kernel
theorem dL_law_2345 : decode cL_law 2345 = .ok (.iload 7, 2) := by decide +kernel
theorem dL_law_2347 : decode cL_law 2347 = .ok (.i2l, 1) := by decide +kernel
theorem dL_law_2348 : decode cL_law 2348 = .ok (.lcmp, 1) := by decide +kernel
theorem dL_law_2349 : decode cL_law 2349 = .ok (.ifCond .eq 5, 3) := by decide +kernel
theorem dL_law_2352 : decode cL_law 2352 = .ok (.iconst 0, 1) := by decide +kernel
theorem dL_law_2353 : decode cL_law 2353 = .ok (.ireturn, 1) := by decide +kernel
theorem dL_law_2354 : decode cL_law 2354 = .ok (.goto 893, 3) := by decide +kernel
theorem dL_law_2357 : decode cL_law 2357 = .ok (.aload_n 1, 1) := by decide +kernel
theorem dL_law_2358 : decode cL_law 2358 = .ok (.aload_n 0, 1) := by decide +kernel
theorem dL_law_2359 : decode cL_law 2359 = .ok (.iload 5, 2) := by decide +kernel
theorem dL_law_2361 : decode cL_law 2361 = .ok (.iconst 1, 1) := by decide +kernel
theorem dL_law_2362 : decode cL_law 2362 = .ok (.iadd, 1) := by decide +kernel
theorem dL_law_2363 : decode cL_law 2363 = .ok (.iaload, 1) := by decide +kernel
theorem dL_law_2364 : decode cL_law 2364 = .ok (.aload_n 3, 1) := by decide +kernel
theorem dL_law_2365 : decode cL_law 2365 = .ok (.invokestatic 330, 3) := by decide +kernel
theorem dL_law_2368 : decode cL_law 2368 = .ok (.istore 6, 2) := by decide +kernel
theorem dL_law_2370 : decode cL_law 2370 = .ok (.aload_n 2, 1) := by decide +kernel
theorem dL_law_2371 : decode cL_law 2371 = .ok (.aload_n 0, 1) := by decide +kernel
theorem dL_law_2372 : decode cL_law 2372 = .ok (.iload 5, 2) := by decide +kernel
theorem dL_law_2374 : decode cL_law 2374 = .ok (.iconst 1, 1) := by decide +kernel
theorem dL_law_2375 : decode cL_law 2375 = .ok (.iadd, 1) := by decide +kernel
theorem dL_law_2376 : decode cL_law 2376 = .ok (.iaload, 1) := by decide +kernel
theorem dL_law_2377 : decode cL_law 2377 = .ok (.invokevirtual 332, 3) := by decide +kernel
theorem dL_law_2380 : decode cL_law 2380 = .ok (.istore 7, 2) := by decide +kernel
theorem dL_law_2382 : decode cL_law 2382 = .ok (.aload_n 2, 1) := by decide +kernel
theorem dL_law_2383 : decode cL_law 2383 = .ok (.invokevirtual 184, 3) := by decide +kernel
theorem dL_law_2386 : decode cL_law 2386 = .ok (.iload 6, 2) := by decide +kernel
theorem dL_law_2388 : decode cL_law 2388 = .ok (.if_icmp .eq 5, 3) := by decide +kernel
theorem dL_law_2391 : decode cL_law 2391 = .ok (.iconst 0, 1) := by decide +kernel
theorem dL_law_2392 : decode cL_law 2392 = .ok (.ireturn, 1) := by decide +kernel
theorem dL_law_2393 : decode cL_law 2393 = .ok (.iload 6, 2) := by decide +kernel
theorem dL_law_2395 : decode cL_law 2395 = .ok (.ifCond .ne 15, 3) := by decide +kernel
theorem dL_law_2398 : decode cL_law 2398 = .ok (.aload_n 3, 1) := by decide +kernel
theorem dL_law_2399 : decode cL_law 2399 = .ok (.iconst 0, 1) := by decide +kernel
theorem dL_law_2400 : decode cL_law 2400 = .ok (.laload, 1) := by decide +kernel
theorem dL_law_2401 : decode cL_law 2401 = .ok (.iload 7, 2) := by decide +kernel
theorem dL_law_2403 : decode cL_law 2403 = .ok (.i2l, 1) := by decide +kernel
theorem dL_law_2404 : decode cL_law 2404 = .ok (.lcmp, 1) := by decide +kernel
theorem dL_law_2405 : decode cL_law 2405 = .ok (.ifCond .eq 5, 3) := by decide +kernel
theorem dL_law_2408 : decode cL_law 2408 = .ok (.iconst 0, 1) := by decide +kernel
theorem dL_law_2409 : decode cL_law 2409 = .ok (.ireturn, 1) := by decide +kernel
theorem dL_law_2410 : decode cL_law 2410 = .ok (.goto 837, 3) := by decide +kernel
theorem dL_law_2413 : decode cL_law 2413 = .ok (.aload_n 1, 1) := by decide +kernel
theorem dL_law_2414 : decode cL_law 2414 = .ok (.invokevirtual 333, 3) := by decide +kernel
theorem dL_law_2417 : decode cL_law 2417 = .ok (.aload_n 2, 1) := by decide +kernel
theorem dL_law_2418 : decode cL_law 2418 = .ok (.invokevirtual 336, 3) := by decide +kernel
theorem dL_law_2421 : decode cL_law 2421 = .ok (.if_icmp .eq 826, 3) := by decide +kernel
theorem dL_law_2424 : decode cL_law 2424 = .ok (.iconst 0, 1) := by decide +kernel
theorem dL_law_2425 : decode cL_law 2425 = .ok (.ireturn, 1) := by decide +kernel
theorem dL_law_2426 : decode cL_law 2426 = .ok (.aload_n 1, 1) := by decide +kernel
theorem dL_law_2427 : decode cL_law 2427 = .ok (.aload_n 0, 1) := by decide +kernel
theorem dL_law_2428 : decode cL_law 2428 = .ok (.iload 5, 2) := by decide +kernel
theorem dL_law_2430 : decode cL_law 2430 = .ok (.iconst 1, 1) := by decide +kernel
theorem dL_law_2431 : decode cL_law 2431 = .ok (.iadd, 1) := by decide +kernel
theorem dL_law_2432 : decode cL_law 2432 = .ok (.iaload, 1) := by decide +kernel
theorem dL_law_2433 : decode cL_law 2433 = .ok (.aload_n 3, 1) := by decide +kernel
theorem dL_law_2434 : decode cL_law 2434 = .ok (.invokestatic 337, 3) := by decide +kernel
theorem dL_law_2437 : decode cL_law 2437 = .ok (.istore 6, 2) := by decide +kernel
theorem dL_law_2439 : decode cL_law 2439 = .ok (.aload_n 2, 1) := by decide +kernel
theorem dL_law_2440 : decode cL_law 2440 = .ok (.aload_n 0, 1) := by decide +kernel
theorem dL_law_2441 : decode cL_law 2441 = .ok (.iload 5, 2) := by decide +kernel
theorem dL_law_2443 : decode cL_law 2443 = .ok (.iconst 1, 1) := by decide +kernel
theorem dL_law_2444 : decode cL_law 2444 = .ok (.iadd, 1) := by decide +kernel
theorem dL_law_2445 : decode cL_law 2445 = .ok (.iaload, 1) := by decide +kernel
theorem dL_law_2446 : decode cL_law 2446 = .ok (.invokevirtual 339, 3) := by decide +kernel
theorem dL_law_2449 : decode cL_law 2449 = .ok (.istore 7, 2) := by decide +kernel
theorem dL_law_2451 : decode cL_law 2451 = .ok (.aload_n 2, 1) := by decide +kernel
theorem dL_law_2452 : decode cL_law 2452 = .ok (.invokevirtual 184, 3) := by decide +kernel
theorem dL_law_2455 : decode cL_law 2455 = .ok (.iload 6, 2) := by decide +kernel
theorem dL_law_2457 : decode cL_law 2457 = .ok (.if_icmp .eq 5, 3) := by decide +kernel
theorem dL_law_2460 : decode cL_law 2460 = .ok (.iconst 0, 1) := by decide +kernel
theorem dL_law_2461 : decode cL_law 2461 = .ok (.ireturn, 1) := by decide +kernel
theorem dL_law_2462 : decode cL_law 2462 = .ok (.iload 6, 2) := by decide +kernel
theorem dL_law_2464 : decode cL_law 2464 = .ok (.ifCond .ne 22, 3) := by decide +kernel
theorem dL_law_2467 : decode cL_law 2467 = .ok (.aload_n 3, 1) := by decide +kernel
theorem dL_law_2468 : decode cL_law 2468 = .ok (.iconst 0, 1) := by decide +kernel
theorem dL_law_2469 : decode cL_law 2469 = .ok (.laload, 1) := by decide +kernel
theorem dL_law_2470 : decode cL_law 2470 = .ok (.iload 7, 2) := by decide +kernel
theorem dL_law_2472 : decode cL_law 2472 = .ok (.ifCond .eq 7, 3) := by decide +kernel
theorem dL_law_2475 : decode cL_law 2475 = .ok (.lconst 1, 1) := by decide +kernel
theorem dL_law_2476 : decode cL_law 2476 = .ok (.goto 4, 3) := by decide +kernel
theorem dL_law_2479 : decode cL_law 2479 = .ok (.lconst 0, 1) := by decide +kernel
theorem dL_law_2480 : decode cL_law 2480 = .ok (.lcmp, 1) := by decide +kernel
theorem dL_law_2481 : decode cL_law 2481 = .ok (.ifCond .eq 5, 3) := by decide +kernel
theorem dL_law_2484 : decode cL_law 2484 = .ok (.iconst 0, 1) := by decide +kernel
theorem dL_law_2485 : decode cL_law 2485 = .ok (.ireturn, 1) := by decide +kernel
theorem dL_law_2486 : decode cL_law 2486 = .ok (.goto 761, 3) := by decide +kernel
theorem dL_law_2489 : decode cL_law 2489 = .ok (.aload_n 1, 1) := by decide +kernel
theorem dL_law_2490 : decode cL_law 2490 = .ok (.aload_n 0, 1) := by decide +kernel
theorem dL_law_2491 : decode cL_law 2491 = .ok (.iload 5, 2) := by decide +kernel
theorem dL_law_2493 : decode cL_law 2493 = .ok (.iconst 1, 1) := by decide +kernel
theorem dL_law_2494 : decode cL_law 2494 = .ok (.iadd, 1) := by decide +kernel
theorem dL_law_2495 : decode cL_law 2495 = .ok (.iaload, 1) := by decide +kernel
theorem dL_law_2496 : decode cL_law 2496 = .ok (.aload_n 3, 1) := by decide +kernel
theorem dL_law_2497 : decode cL_law 2497 = .ok (.invokestatic 340, 3) := by decide +kernel
theorem dL_law_2500 : decode cL_law 2500 = .ok (.istore 6, 2) := by decide +kernel
theorem dL_law_2502 : decode cL_law 2502 = .ok (.aload_n 2, 1) := by decide +kernel
theorem dL_law_2503 : decode cL_law 2503 = .ok (.aload_n 0, 1) := by decide +kernel
theorem dL_law_2504 : decode cL_law 2504 = .ok (.iload 5, 2) := by decide +kernel
theorem dL_law_2506 : decode cL_law 2506 = .ok (.iconst 1, 1) := by decide +kernel
theorem dL_law_2507 : decode cL_law 2507 = .ok (.iadd, 1) := by decide +kernel
theorem dL_law_2508 : decode cL_law 2508 = .ok (.iaload, 1) := by decide +kernel
theorem dL_law_2509 : decode cL_law 2509 = .ok (.invokevirtual 342, 3) := by decide +kernel
theorem dL_law_2512 : decode cL_law 2512 = .ok (.istore 7, 2) := by decide +kernel
theorem dL_law_2514 : decode cL_law 2514 = .ok (.aload_n 2, 1) := by decide +kernel
theorem dL_law_2515 : decode cL_law 2515 = .ok (.invokevirtual 184, 3) := by decide +kernel
theorem dL_law_2518 : decode cL_law 2518 = .ok (.iload 6, 2) := by decide +kernel
theorem dL_law_2520 : decode cL_law 2520 = .ok (.if_icmp .eq 5, 3) := by decide +kernel
theorem dL_law_2523 : decode cL_law 2523 = .ok (.iconst 0, 1) := by decide +kernel
theorem dL_law_2524 : decode cL_law 2524 = .ok (.ireturn, 1) := by decide +kernel
theorem dL_law_2525 : decode cL_law 2525 = .ok (.iload 6, 2) := by decide +kernel
theorem dL_law_2527 : decode cL_law 2527 = .ok (.ifCond .ne 22, 3) := by decide +kernel
theorem dL_law_2530 : decode cL_law 2530 = .ok (.aload_n 3, 1) := by decide +kernel
theorem dL_law_2531 : decode cL_law 2531 = .ok (.iconst 0, 1) := by decide +kernel
theorem dL_law_2532 : decode cL_law 2532 = .ok (.laload, 1) := by decide +kernel
theorem dL_law_2533 : decode cL_law 2533 = .ok (.iload 7, 2) := by decide +kernel
theorem dL_law_2535 : decode cL_law 2535 = .ok (.ifCond .eq 7, 3) := by decide +kernel
theorem dL_law_2538 : decode cL_law 2538 = .ok (.lconst 1, 1) := by decide +kernel
theorem dL_law_2539 : decode cL_law 2539 = .ok (.goto 4, 3) := by decide +kernel
theorem dL_law_2542 : decode cL_law 2542 = .ok (.lconst 0, 1) := by decide +kernel
theorem dL_law_2543 : decode cL_law 2543 = .ok (.lcmp, 1) := by decide +kernel
theorem dL_law_2544 : decode cL_law 2544 = .ok (.ifCond .eq 5, 3) := by decide +kernel
theorem dL_law_2547 : decode cL_law 2547 = .ok (.iconst 0, 1) := by decide +kernel
theorem dL_law_2548 : decode cL_law 2548 = .ok (.ireturn, 1) := by decide +kernel
theorem dL_law_2549 : decode cL_law 2549 = .ok (.goto 698, 3) := by decide +kernel
theorem dL_law_2552 : decode cL_law 2552 = .ok (.aload_n 1, 1) := by decide +kernel
theorem dL_law_2553 : decode cL_law 2553 = .ok (.aload_n 0, 1) := by decide +kernel
theorem dL_law_2554 : decode cL_law 2554 = .ok (.iload 5, 2) := by decide +kernel
theorem dL_law_2556 : decode cL_law 2556 = .ok (.iconst 1, 1) := by decide +kernel
theorem dL_law_2557 : decode cL_law 2557 = .ok (.iadd, 1) := by decide +kernel
theorem dL_law_2558 : decode cL_law 2558 = .ok (.iaload, 1) := by decide +kernel
theorem dL_law_2559 : decode cL_law 2559 = .ok (.aload_n 3, 1) := by decide +kernel
theorem dL_law_2560 : decode cL_law 2560 = .ok (.invokestatic 343, 3) := by decide +kernel
theorem dL_law_2563 : decode cL_law 2563 = .ok (.istore 6, 2) := by decide +kernel
theorem dL_law_2565 : decode cL_law 2565 = .ok (.aload_n 2, 1) := by decide +kernel
theorem dL_law_2566 : decode cL_law 2566 = .ok (.aload_n 0, 1) := by decide +kernel
theorem dL_law_2567 : decode cL_law 2567 = .ok (.iload 5, 2) := by decide +kernel
theorem dL_law_2569 : decode cL_law 2569 = .ok (.iconst 1, 1) := by decide +kernel
theorem dL_law_2570 : decode cL_law 2570 = .ok (.iadd, 1) := by decide +kernel
theorem dL_law_2571 : decode cL_law 2571 = .ok (.iaload, 1) := by decide +kernel
theorem dL_law_2572 : decode cL_law 2572 = .ok (.invokevirtual 345, 3) := by decide +kernel
theorem dL_law_2575 : decode cL_law 2575 = .ok (.istore 7, 2) := by decide +kernel
theorem dL_law_2577 : decode cL_law 2577 = .ok (.aload_n 2, 1) := by decide +kernel
theorem dL_law_2578 : decode cL_law 2578 = .ok (.invokevirtual 184, 3) := by decide +kernel
theorem dL_law_2581 : decode cL_law 2581 = .ok (.iload 6, 2) := by decide +kernel
theorem dL_law_2583 : decode cL_law 2583 = .ok (.if_icmp .eq 5, 3) := by decide +kernel
theorem dL_law_2586 : decode cL_law 2586 = .ok (.iconst 0, 1) := by decide +kernel
theorem dL_law_2587 : decode cL_law 2587 = .ok (.ireturn, 1) := by decide +kernel
theorem dL_law_2588 : decode cL_law 2588 = .ok (.iload 6, 2) := by decide +kernel
theorem dL_law_2590 : decode cL_law 2590 = .ok (.ifCond .ne 15, 3) := by decide +kernel
theorem dL_law_2593 : decode cL_law 2593 = .ok (.aload_n 3, 1) := by decide +kernel
theorem dL_law_2594 : decode cL_law 2594 = .ok (.iconst 0, 1) := by decide +kernel
theorem dL_law_2595 : decode cL_law 2595 = .ok (.laload, 1) := by decide +kernel
theorem dL_law_2596 : decode cL_law 2596 = .ok (.iload 7, 2) := by decide +kernel
theorem dL_law_2598 : decode cL_law 2598 = .ok (.i2l, 1) := by decide +kernel
theorem dL_law_2599 : decode cL_law 2599 = .ok (.lcmp, 1) := by decide +kernel
theorem dL_law_2600 : decode cL_law 2600 = .ok (.ifCond .eq 5, 3) := by decide +kernel
theorem dL_law_2603 : decode cL_law 2603 = .ok (.iconst 0, 1) := by decide +kernel
theorem dL_law_2604 : decode cL_law 2604 = .ok (.ireturn, 1) := by decide +kernel
theorem dL_law_2605 : decode cL_law 2605 = .ok (.goto 642, 3) := by decide +kernel
theorem dL_law_2608 : decode cL_law 2608 = .ok (.aload_n 1, 1) := by decide +kernel
theorem dL_law_2609 : decode cL_law 2609 = .ok (.aload_n 0, 1) := by decide +kernel
theorem dL_law_2610 : decode cL_law 2610 = .ok (.iload 5, 2) := by decide +kernel
theorem dL_law_2612 : decode cL_law 2612 = .ok (.iconst 1, 1) := by decide +kernel
theorem dL_law_2613 : decode cL_law 2613 = .ok (.iadd, 1) := by decide +kernel
theorem dL_law_2614 : decode cL_law 2614 = .ok (.iaload, 1) := by decide +kernel
theorem dL_law_2615 : decode cL_law 2615 = .ok (.aload_n 0, 1) := by decide +kernel
theorem dL_law_2616 : decode cL_law 2616 = .ok (.iload 5, 2) := by decide +kernel
theorem dL_law_2618 : decode cL_law 2618 = .ok (.iconst 2, 1) := by decide +kernel
theorem dL_law_2619 : decode cL_law 2619 = .ok (.iadd, 1) := by decide +kernel
theorem dL_law_2620 : decode cL_law 2620 = .ok (.iaload, 1) := by decide +kernel
theorem dL_law_2621 : decode cL_law 2621 = .ok (.aload_n 3, 1) := by decide +kernel
theorem dL_law_2622 : decode cL_law 2622 = .ok (.invokestatic 346, 3) := by decide +kernel
theorem dL_law_2625 : decode cL_law 2625 = .ok (.istore 6, 2) := by decide +kernel
theorem dL_law_2627 : decode cL_law 2627 = .ok (.aload_n 2, 1) := by decide +kernel
theorem dL_law_2628 : decode cL_law 2628 = .ok (.aload_n 0, 1) := by decide +kernel
theorem dL_law_2629 : decode cL_law 2629 = .ok (.iload 5, 2) := by decide +kernel
theorem dL_law_2631 : decode cL_law 2631 = .ok (.iconst 1, 1) := by decide +kernel
theorem dL_law_2632 : decode cL_law 2632 = .ok (.iadd, 1) := by decide +kernel
theorem dL_law_2633 : decode cL_law 2633 = .ok (.iaload, 1) := by decide +kernel
theorem dL_law_2634 : decode cL_law 2634 = .ok (.aload_n 0, 1) := by decide +kernel
theorem dL_law_2635 : decode cL_law 2635 = .ok (.iload 5, 2) := by decide +kernel
theorem dL_law_2637 : decode cL_law 2637 = .ok (.iconst 2, 1) := by decide +kernel
theorem dL_law_2638 : decode cL_law 2638 = .ok (.iadd, 1) := by decide +kernel
theorem dL_law_2639 : decode cL_law 2639 = .ok (.iaload, 1) := by decide +kernel
theorem dL_law_2640 : decode cL_law 2640 = .ok (.invokevirtual 348, 3) := by decide +kernel
theorem dL_law_2643 : decode cL_law 2643 = .ok (.istore 7, 2) := by decide +kernel
theorem dL_law_2645 : decode cL_law 2645 = .ok (.aload_n 2, 1) := by decide +kernel
theorem dL_law_2646 : decode cL_law 2646 = .ok (.invokevirtual 184, 3) := by decide +kernel
theorem dL_law_2649 : decode cL_law 2649 = .ok (.iload 6, 2) := by decide +kernel
theorem dL_law_2651 : decode cL_law 2651 = .ok (.if_icmp .eq 5, 3) := by decide +kernel
theorem dL_law_2654 : decode cL_law 2654 = .ok (.iconst 0, 1) := by decide +kernel
theorem dL_law_2655 : decode cL_law 2655 = .ok (.ireturn, 1) := by decide +kernel
theorem dL_law_2656 : decode cL_law 2656 = .ok (.iload 6, 2) := by decide +kernel
theorem dL_law_2658 : decode cL_law 2658 = .ok (.ifCond .ne 22, 3) := by decide +kernel
theorem dL_law_2661 : decode cL_law 2661 = .ok (.aload_n 3, 1) := by decide +kernel
theorem dL_law_2662 : decode cL_law 2662 = .ok (.iconst 0, 1) := by decide +kernel
theorem dL_law_2663 : decode cL_law 2663 = .ok (.laload, 1) := by decide +kernel
theorem dL_law_2664 : decode cL_law 2664 = .ok (.iload 7, 2) := by decide +kernel
theorem dL_law_2666 : decode cL_law 2666 = .ok (.ifCond .eq 7, 3) := by decide +kernel
theorem dL_law_2669 : decode cL_law 2669 = .ok (.lconst 1, 1) := by decide +kernel
theorem dL_law_2670 : decode cL_law 2670 = .ok (.goto 4, 3) := by decide +kernel
theorem dL_law_2673 : decode cL_law 2673 = .ok (.lconst 0, 1) := by decide +kernel
theorem dL_law_2674 : decode cL_law 2674 = .ok (.lcmp, 1) := by decide +kernel
theorem dL_law_2675 : decode cL_law 2675 = .ok (.ifCond .eq 5, 3) := by decide +kernel
theorem dL_law_2678 : decode cL_law 2678 = .ok (.iconst 0, 1) := by decide +kernel
theorem dL_law_2679 : decode cL_law 2679 = .ok (.ireturn, 1) := by decide +kernel
theorem dL_law_2680 : decode cL_law 2680 = .ok (.goto 567, 3) := by decide +kernel
theorem dL_law_2683 : decode cL_law 2683 = .ok (.aload_n 1, 1) := by decide +kernel
theorem dL_law_2684 : decode cL_law 2684 = .ok (.aload_n 0, 1) := by decide +kernel
theorem dL_law_2685 : decode cL_law 2685 = .ok (.iload 5, 2) := by decide +kernel
theorem dL_law_2687 : decode cL_law 2687 = .ok (.iconst 1, 1) := by decide +kernel
theorem dL_law_2688 : decode cL_law 2688 = .ok (.iadd, 1) := by decide +kernel
theorem dL_law_2689 : decode cL_law 2689 = .ok (.iaload, 1) := by decide +kernel
theorem dL_law_2690 : decode cL_law 2690 = .ok (.aload_n 3, 1) := by decide +kernel
theorem dL_law_2691 : decode cL_law 2691 = .ok (.invokestatic 349, 3) := by decide +kernel
theorem dL_law_2694 : decode cL_law 2694 = .ok (.istore 6, 2) := by decide +kernel
theorem dL_law_2696 : decode cL_law 2696 = .ok (.aload_n 2, 1) := by decide +kernel
theorem dL_law_2697 : decode cL_law 2697 = .ok (.aload_n 0, 1) := by decide +kernel
theorem dL_law_2698 : decode cL_law 2698 = .ok (.iload 5, 2) := by decide +kernel
theorem dL_law_2700 : decode cL_law 2700 = .ok (.iconst 1, 1) := by decide +kernel
theorem dL_law_2701 : decode cL_law 2701 = .ok (.iadd, 1) := by decide +kernel
theorem dL_law_2702 : decode cL_law 2702 = .ok (.iaload, 1) := by decide +kernel
theorem dL_law_2703 : decode cL_law 2703 = .ok (.invokevirtual 351, 3) := by decide +kernel
theorem dL_law_2706 : decode cL_law 2706 = .ok (.istore 7, 2) := by decide +kernel
theorem dL_law_2708 : decode cL_law 2708 = .ok (.aload_n 2, 1) := by decide +kernel
theorem dL_law_2709 : decode cL_law 2709 = .ok (.invokevirtual 184, 3) := by decide +kernel
theorem dL_law_2712 : decode cL_law 2712 = .ok (.iload 6, 2) := by decide +kernel
theorem dL_law_2714 : decode cL_law 2714 = .ok (.if_icmp .eq 5, 3) := by decide +kernel
theorem dL_law_2717 : decode cL_law 2717 = .ok (.iconst 0, 1) := by decide +kernel
theorem dL_law_2718 : decode cL_law 2718 = .ok (.ireturn, 1) := by decide +kernel
theorem dL_law_2719 : decode cL_law 2719 = .ok (.iload 6, 2) := by decide +kernel
theorem dL_law_2721 : decode cL_law 2721 = .ok (.ifCond .ne 15, 3) := by decide +kernel
theorem dL_law_2724 : decode cL_law 2724 = .ok (.aload_n 3, 1) := by decide +kernel
theorem dL_law_2725 : decode cL_law 2725 = .ok (.iconst 0, 1) := by decide +kernel
theorem dL_law_2726 : decode cL_law 2726 = .ok (.laload, 1) := by decide +kernel
theorem dL_law_2727 : decode cL_law 2727 = .ok (.iload 7, 2) := by decide +kernel
theorem dL_law_2729 : decode cL_law 2729 = .ok (.i2l, 1) := by decide +kernel
theorem dL_law_2730 : decode cL_law 2730 = .ok (.lcmp, 1) := by decide +kernel
theorem dL_law_2731 : decode cL_law 2731 = .ok (.ifCond .eq 5, 3) := by decide +kernel
theorem dL_law_2734 : decode cL_law 2734 = .ok (.iconst 0, 1) := by decide +kernel
theorem dL_law_2735 : decode cL_law 2735 = .ok (.ireturn, 1) := by decide +kernel
theorem dL_law_2736 : decode cL_law 2736 = .ok (.goto 511, 3) := by decide +kernel
theorem dL_law_2739 : decode cL_law 2739 = .ok (.aload_n 1, 1) := by decide +kernel
theorem dL_law_2740 : decode cL_law 2740 = .ok (.invokevirtual 352, 3) := by decide +kernel
theorem dL_law_2743 : decode cL_law 2743 = .ok (.aload_n 2, 1) := by decide +kernel
theorem dL_law_2744 : decode cL_law 2744 = .ok (.invokevirtual 355, 3) := by decide +kernel
theorem dL_law_2747 : decode cL_law 2747 = .ok (.if_icmp .eq 500, 3) := by decide +kernel
theorem dL_law_2750 : decode cL_law 2750 = .ok (.iconst 0, 1) := by decide +kernel
theorem dL_law_2751 : decode cL_law 2751 = .ok (.ireturn, 1) := by decide +kernel
theorem dL_law_2752 : decode cL_law 2752 = .ok (.aload_n 1, 1) := by decide +kernel
theorem dL_law_2753 : decode cL_law 2753 = .ok (.aload 4, 2) := by decide +kernel
theorem dL_law_2755 : decode cL_law 2755 = .ok (.invokestatic 356, 3) := by decide +kernel
theorem dL_law_2758 : decode cL_law 2758 = .ok (.istore 6, 2) := by decide +kernel
theorem dL_law_2760 : decode cL_law 2760 = .ok (.aload_n 2, 1) := by decide +kernel
theorem dL_law_2761 : decode cL_law 2761 = .ok (.invokevirtual 358, 3) := by decide +kernel
theorem dL_law_2764 : decode cL_law 2764 = .ok (.fstore 7, 2) := by decide +kernel
theorem dL_law_2766 : decode cL_law 2766 = .ok (.aload_n 2, 1) := by decide +kernel
theorem dL_law_2767 : decode cL_law 2767 = .ok (.invokevirtual 184, 3) := by decide +kernel
theorem dL_law_2770 : decode cL_law 2770 = .ok (.iload 6, 2) := by decide +kernel
theorem dL_law_2772 : decode cL_law 2772 = .ok (.if_icmp .eq 5, 3) := by decide +kernel
theorem dL_law_2775 : decode cL_law 2775 = .ok (.iconst 0, 1) := by decide +kernel
theorem dL_law_2776 : decode cL_law 2776 = .ok (.ireturn, 1) := by decide +kernel
theorem dL_law_2777 : decode cL_law 2777 = .ok (.iload 6, 2) := by decide +kernel
theorem dL_law_2779 : decode cL_law 2779 = .ok (.ifCond .ne 36, 3) := by decide +kernel
theorem dL_law_2782 : decode cL_law 2782 = .ok (.aload 4, 2) := by decide +kernel
theorem dL_law_2784 : decode cL_law 2784 = .ok (.iconst 0, 1) := by decide +kernel
theorem dL_law_2785 : decode cL_law 2785 = .ok (.daload, 1) := by decide +kernel
theorem dL_law_2786 : decode cL_law 2786 = .ok (.fload 7, 2) := by decide +kernel
theorem dL_law_2788 : decode cL_law 2788 = .ok (.f2d, 1) := by decide +kernel
theorem dL_law_2789 : decode cL_law 2789 = .ok (.dcmp .l, 1) := by decide +kernel
theorem dL_law_2790 : decode cL_law 2790 = .ok (.ifCond .eq 25, 3) := by decide +kernel
theorem dL_law_2793 : decode cL_law 2793 = .ok (.aload 4, 2) := by decide +kernel
theorem dL_law_2795 : decode cL_law 2795 = .ok (.iconst 0, 1) := by decide +kernel
theorem dL_law_2796 : decode cL_law 2796 = .ok (.daload, 1) := by decide +kernel
theorem dL_law_2797 : decode cL_law 2797 = .ok (.aload 4, 2) := by decide +kernel
theorem dL_law_2799 : decode cL_law 2799 = .ok (.iconst 0, 1) := by decide +kernel
theorem dL_law_2800 : decode cL_law 2800 = .ok (.daload, 1) := by decide +kernel
theorem dL_law_2801 : decode cL_law 2801 = .ok (.dcmp .l, 1) := by decide +kernel
theorem dL_law_2802 : decode cL_law 2802 = .ok (.ifCond .eq 11, 3) := by decide +kernel
theorem dL_law_2805 : decode cL_law 2805 = .ok (.fload 7, 2) := by decide +kernel
theorem dL_law_2807 : decode cL_law 2807 = .ok (.fload 7, 2) := by decide +kernel
theorem dL_law_2809 : decode cL_law 2809 = .ok (.fcmp .l, 1) := by decide +kernel
theorem dL_law_2810 : decode cL_law 2810 = .ok (.ifCond .ne 5, 3) := by decide +kernel
theorem dL_law_2813 : decode cL_law 2813 = .ok (.iconst 0, 1) := by decide +kernel
theorem dL_law_2814 : decode cL_law 2814 = .ok (.ireturn, 1) := by decide +kernel
theorem dL_law_2815 : decode cL_law 2815 = .ok (.goto 432, 3) := by decide +kernel
theorem dL_law_2818 : decode cL_law 2818 = .ok (.aload_n 1, 1) := by decide +kernel
theorem dL_law_2819 : decode cL_law 2819 = .ok (.invokevirtual 359, 3) := by decide +kernel
theorem dL_law_2822 : decode cL_law 2822 = .ok (.aload_n 2, 1) := by decide +kernel
theorem dL_law_2823 : decode cL_law 2823 = .ok (.invokevirtual 363, 3) := by decide +kernel
theorem dL_law_2826 : decode cL_law 2826 = .ok (.if_icmp .eq 421, 3) := by decide +kernel
theorem dL_law_2829 : decode cL_law 2829 = .ok (.iconst 0, 1) := by decide +kernel
theorem dL_law_2830 : decode cL_law 2830 = .ok (.ireturn, 1) := by decide +kernel
theorem dL_law_2831 : decode cL_law 2831 = .ok (.aload_n 1, 1) := by decide +kernel
theorem dL_law_2832 : decode cL_law 2832 = .ok (.aload_n 0, 1) := by decide +kernel
theorem dL_law_2833 : decode cL_law 2833 = .ok (.iload 5, 2) := by decide +kernel
theorem dL_law_2835 : decode cL_law 2835 = .ok (.iconst 1, 1) := by decide +kernel
theorem dL_law_2836 : decode cL_law 2836 = .ok (.iadd, 1) := by decide +kernel
theorem dL_law_2837 : decode cL_law 2837 = .ok (.iaload, 1) := by decide +kernel
theorem dL_law_2838 : decode cL_law 2838 = .ok (.i2c, 1) := by decide +kernel
theorem dL_law_2839 : decode cL_law 2839 = .ok (.aload_n 3, 1) := by decide +kernel
theorem dL_law_2840 : decode cL_law 2840 = .ok (.invokestatic 364, 3) := by decide +kernel
theorem dL_law_2843 : decode cL_law 2843 = .ok (.istore 6, 2) := by decide +kernel
theorem dL_law_2845 : decode cL_law 2845 = .ok (.aload_n 2, 1) := by decide +kernel
theorem dL_law_2846 : decode cL_law 2846 = .ok (.aload_n 0, 1) := by decide +kernel
theorem dL_law_2847 : decode cL_law 2847 = .ok (.iload 5, 2) := by decide +kernel
theorem dL_law_2849 : decode cL_law 2849 = .ok (.iconst 1, 1) := by decide +kernel
theorem dL_law_2850 : decode cL_law 2850 = .ok (.iadd, 1) := by decide +kernel
theorem dL_law_2851 : decode cL_law 2851 = .ok (.iaload, 1) := by decide +kernel
theorem dL_law_2852 : decode cL_law 2852 = .ok (.i2c, 1) := by decide +kernel
theorem dL_law_2853 : decode cL_law 2853 = .ok (.invokevirtual 366, 3) := by decide +kernel
theorem dL_law_2856 : decode cL_law 2856 = .ok (.istore 7, 2) := by decide +kernel
theorem dL_law_2858 : decode cL_law 2858 = .ok (.aload_n 2, 1) := by decide +kernel
theorem dL_law_2859 : decode cL_law 2859 = .ok (.invokevirtual 184, 3) := by decide +kernel
theorem dL_law_2862 : decode cL_law 2862 = .ok (.iload 6, 2) := by decide +kernel
theorem dL_law_2864 : decode cL_law 2864 = .ok (.if_icmp .eq 5, 3) := by decide +kernel
theorem dL_law_2867 : decode cL_law 2867 = .ok (.iconst 0, 1) := by decide +kernel
theorem dL_law_2868 : decode cL_law 2868 = .ok (.ireturn, 1) := by decide +kernel
theorem dL_law_2869 : decode cL_law 2869 = .ok (.iload 6, 2) := by decide +kernel
theorem dL_law_2871 : decode cL_law 2871 = .ok (.ifCond .ne 15, 3) := by decide +kernel
theorem dL_law_2874 : decode cL_law 2874 = .ok (.aload_n 3, 1) := by decide +kernel
theorem dL_law_2875 : decode cL_law 2875 = .ok (.iconst 0, 1) := by decide +kernel
theorem dL_law_2876 : decode cL_law 2876 = .ok (.laload, 1) := by decide +kernel
theorem dL_law_2877 : decode cL_law 2877 = .ok (.iload 7, 2) := by decide +kernel
theorem dL_law_2879 : decode cL_law 2879 = .ok (.i2l, 1) := by decide +kernel
theorem dL_law_2880 : decode cL_law 2880 = .ok (.lcmp, 1) := by decide +kernel
theorem dL_law_2881 : decode cL_law 2881 = .ok (.ifCond .eq 5, 3) := by decide +kernel
theorem dL_law_2884 : decode cL_law 2884 = .ok (.iconst 0, 1) := by decide +kernel
theorem dL_law_2885 : decode cL_law 2885 = .ok (.ireturn, 1) := by decide +kernel
theorem dL_law_2886 : decode cL_law 2886 = .ok (.goto 361, 3) := by decide +kernel
theorem dL_law_2889 : decode cL_law 2889 = .ok (.aload_n 1, 1) := by decide +kernel
theorem dL_law_2890 : decode cL_law 2890 = .ok (.aload_n 3, 1) := by decide +kernel
theorem dL_law_2891 : decode cL_law 2891 = .ok (.invokestatic 367, 3) := by decide +kernel
theorem dL_law_2894 : decode cL_law 2894 = .ok (.istore 6, 2) := by decide +kernel
theorem dL_law_2896 : decode cL_law 2896 = .ok (.aload_n 2, 1) := by decide +kernel
theorem dL_law_2897 : decode cL_law 2897 = .ok (.invokevirtual 370, 3) := by decide +kernel
theorem dL_law_2900 : decode cL_law 2900 = .ok (.istore 7, 2) := by decide +kernel
theorem dL_law_2902 : decode cL_law 2902 = .ok (.aload_n 2, 1) := by decide +kernel
theorem dL_law_2903 : decode cL_law 2903 = .ok (.invokevirtual 184, 3) := by decide +kernel
theorem dL_law_2906 : decode cL_law 2906 = .ok (.iload 6, 2) := by decide +kernel
theorem dL_law_2908 : decode cL_law 2908 = .ok (.if_icmp .eq 5, 3) := by decide +kernel
theorem dL_law_2911 : decode cL_law 2911 = .ok (.iconst 0, 1) := by decide +kernel
theorem dL_law_2912 : decode cL_law 2912 = .ok (.ireturn, 1) := by decide +kernel
theorem dL_law_2913 : decode cL_law 2913 = .ok (.iload 6, 2) := by decide +kernel
theorem dL_law_2915 : decode cL_law 2915 = .ok (.ifCond .ne 15, 3) := by decide +kernel
theorem dL_law_2918 : decode cL_law 2918 = .ok (.aload_n 3, 1) := by decide +kernel
theorem dL_law_2919 : decode cL_law 2919 = .ok (.iconst 0, 1) := by decide +kernel
theorem dL_law_2920 : decode cL_law 2920 = .ok (.laload, 1) := by decide +kernel
theorem dL_law_2921 : decode cL_law 2921 = .ok (.iload 7, 2) := by decide +kernel
theorem dL_law_2923 : decode cL_law 2923 = .ok (.i2l, 1) := by decide +kernel
theorem dL_law_2924 : decode cL_law 2924 = .ok (.lcmp, 1) := by decide +kernel
theorem dL_law_2925 : decode cL_law 2925 = .ok (.ifCond .eq 5, 3) := by decide +kernel
theorem dL_law_2928 : decode cL_law 2928 = .ok (.iconst 0, 1) := by decide +kernel
theorem dL_law_2929 : decode cL_law 2929 = .ok (.ireturn, 1) := by decide +kernel
theorem dL_law_2930 : decode cL_law 2930 = .ok (.goto 317, 3) := by decide +kernel
theorem dL_law_2933 : decode cL_law 2933 = .ok (.aload_n 1, 1) := by decide +kernel
theorem dL_law_2934 : decode cL_law 2934 = .ok (.aload_n 3, 1) := by decide +kernel
theorem dL_law_2935 : decode cL_law 2935 = .ok (.invokestatic 371, 3) := by decide +kernel
theorem dL_law_2938 : decode cL_law 2938 = .ok (.istore 6, 2) := by decide +kernel
theorem dL_law_2940 : decode cL_law 2940 = .ok (.aload_n 2, 1) := by decide +kernel
theorem dL_law_2941 : decode cL_law 2941 = .ok (.invokevirtual 373, 3) := by decide +kernel
theorem dL_law_2944 : decode cL_law 2944 = .ok (.istore 7, 2) := by decide +kernel
theorem dL_law_2946 : decode cL_law 2946 = .ok (.aload_n 2, 1) := by decide +kernel
theorem dL_law_2947 : decode cL_law 2947 = .ok (.invokevirtual 184, 3) := by decide +kernel
theorem dL_law_2950 : decode cL_law 2950 = .ok (.iload 6, 2) := by decide +kernel
theorem dL_law_2952 : decode cL_law 2952 = .ok (.if_icmp .eq 5, 3) := by decide +kernel
theorem dL_law_2955 : decode cL_law 2955 = .ok (.iconst 0, 1) := by decide +kernel
theorem dL_law_2956 : decode cL_law 2956 = .ok (.ireturn, 1) := by decide +kernel
theorem dL_law_2957 : decode cL_law 2957 = .ok (.iload 6, 2) := by decide +kernel
theorem dL_law_2959 : decode cL_law 2959 = .ok (.ifCond .ne 15, 3) := by decide +kernel
theorem dL_law_2962 : decode cL_law 2962 = .ok (.aload_n 3, 1) := by decide +kernel
theorem dL_law_2963 : decode cL_law 2963 = .ok (.iconst 0, 1) := by decide +kernel
theorem dL_law_2964 : decode cL_law 2964 = .ok (.laload, 1) := by decide +kernel
theorem dL_law_2965 : decode cL_law 2965 = .ok (.iload 7, 2) := by decide +kernel
theorem dL_law_2967 : decode cL_law 2967 = .ok (.i2l, 1) := by decide +kernel
theorem dL_law_2968 : decode cL_law 2968 = .ok (.lcmp, 1) := by decide +kernel
theorem dL_law_2969 : decode cL_law 2969 = .ok (.ifCond .eq 5, 3) := by decide +kernel
theorem dL_law_2972 : decode cL_law 2972 = .ok (.iconst 0, 1) := by decide +kernel
theorem dL_law_2973 : decode cL_law 2973 = .ok (.ireturn, 1) := by decide +kernel
theorem dL_law_2974 : decode cL_law 2974 = .ok (.goto 273, 3) := by decide +kernel
theorem dL_law_2977 : decode cL_law 2977 = .ok (.aload_n 1, 1) := by decide +kernel
theorem dL_law_2978 : decode cL_law 2978 = .ok (.aload_n 3, 1) := by decide +kernel
theorem dL_law_2979 : decode cL_law 2979 = .ok (.invokestatic 374, 3) := by decide +kernel
theorem dL_law_2982 : decode cL_law 2982 = .ok (.istore 6, 2) := by decide +kernel
theorem dL_law_2984 : decode cL_law 2984 = .ok (.aload_n 2, 1) := by decide +kernel
theorem dL_law_2985 : decode cL_law 2985 = .ok (.invokevirtual 376, 3) := by decide +kernel
theorem dL_law_2988 : decode cL_law 2988 = .ok (.istore 7, 2) := by decide +kernel
theorem dL_law_2990 : decode cL_law 2990 = .ok (.aload_n 2, 1) := by decide +kernel
theorem dL_law_2991 : decode cL_law 2991 = .ok (.invokevirtual 184, 3) := by decide +kernel
theorem dL_law_2994 : decode cL_law 2994 = .ok (.iload 6, 2) := by decide +kernel
theorem dL_law_2996 : decode cL_law 2996 = .ok (.if_icmp .eq 5, 3) := by decide +kernel
theorem dL_law_2999 : decode cL_law 2999 = .ok (.iconst 0, 1) := by decide +kernel
theorem dL_law_3000 : decode cL_law 3000 = .ok (.ireturn, 1) := by decide +kernel
theorem dL_law_3001 : decode cL_law 3001 = .ok (.iload 6, 2) := by decide +kernel
theorem dL_law_3003 : decode cL_law 3003 = .ok (.ifCond .ne 15, 3) := by decide +kernel
theorem dL_law_3006 : decode cL_law 3006 = .ok (.aload_n 3, 1) := by decide +kernel
theorem dL_law_3007 : decode cL_law 3007 = .ok (.iconst 0, 1) := by decide +kernel
theorem dL_law_3008 : decode cL_law 3008 = .ok (.laload, 1) := by decide +kernel
theorem dL_law_3009 : decode cL_law 3009 = .ok (.iload 7, 2) := by decide +kernel
theorem dL_law_3011 : decode cL_law 3011 = .ok (.i2l, 1) := by decide +kernel
theorem dL_law_3012 : decode cL_law 3012 = .ok (.lcmp, 1) := by decide +kernel
theorem dL_law_3013 : decode cL_law 3013 = .ok (.ifCond .eq 5, 3) := by decide +kernel
theorem dL_law_3016 : decode cL_law 3016 = .ok (.iconst 0, 1) := by decide +kernel
theorem dL_law_3017 : decode cL_law 3017 = .ok (.ireturn, 1) := by decide +kernel
theorem dL_law_3018 : decode cL_law 3018 = .ok (.goto 229, 3) := by decide +kernel
theorem dL_law_3021 : decode cL_law 3021 = .ok (.aload_n 1, 1) := by decide +kernel
theorem dL_law_3022 : decode cL_law 3022 = .ok (.aload_n 0, 1) := by decide +kernel
theorem dL_law_3023 : decode cL_law 3023 = .ok (.iload 5, 2) := by decide +kernel
theorem dL_law_3025 : decode cL_law 3025 = .ok (.iconst 1, 1) := by decide +kernel
theorem dL_law_3026 : decode cL_law 3026 = .ok (.iadd, 1) := by decide +kernel
theorem dL_law_3027 : decode cL_law 3027 = .ok (.iaload, 1) := by decide +kernel
theorem dL_law_3028 : decode cL_law 3028 = .ok (.aload_n 3, 1) := by decide +kernel
theorem dL_law_3029 : decode cL_law 3029 = .ok (.invokestatic 377, 3) := by decide +kernel
theorem dL_law_3032 : decode cL_law 3032 = .ok (.istore 6, 2) := by decide +kernel
theorem dL_law_3034 : decode cL_law 3034 = .ok (.aload_n 2, 1) := by decide +kernel
theorem dL_law_3035 : decode cL_law 3035 = .ok (.aload_n 0, 1) := by decide +kernel
theorem dL_law_3036 : decode cL_law 3036 = .ok (.iload 5, 2) := by decide +kernel
theorem dL_law_3038 : decode cL_law 3038 = .ok (.iconst 1, 1) := by decide +kernel
theorem dL_law_3039 : decode cL_law 3039 = .ok (.iadd, 1) := by decide +kernel
theorem dL_law_3040 : decode cL_law 3040 = .ok (.iaload, 1) := by decide +kernel
theorem dL_law_3041 : decode cL_law 3041 = .ok (.invokevirtual 379, 3) := by decide +kernel
theorem dL_law_3044 : decode cL_law 3044 = .ok (.istore 7, 2) := by decide +kernel
theorem dL_law_3046 : decode cL_law 3046 = .ok (.aload_n 2, 1) := by decide +kernel
theorem dL_law_3047 : decode cL_law 3047 = .ok (.invokevirtual 184, 3) := by decide +kernel
theorem dL_law_3050 : decode cL_law 3050 = .ok (.iload 6, 2) := by decide +kernel
theorem dL_law_3052 : decode cL_law 3052 = .ok (.if_icmp .eq 5, 3) := by decide +kernel
theorem dL_law_3055 : decode cL_law 3055 = .ok (.iconst 0, 1) := by decide +kernel
theorem dL_law_3056 : decode cL_law 3056 = .ok (.ireturn, 1) := by decide +kernel
theorem dL_law_3057 : decode cL_law 3057 = .ok (.iload 6, 2) := by decide +kernel
theorem dL_law_3059 : decode cL_law 3059 = .ok (.ifCond .ne 15, 3) := by decide +kernel
theorem dL_law_3062 : decode cL_law 3062 = .ok (.aload_n 3, 1) := by decide +kernel
theorem dL_law_3063 : decode cL_law 3063 = .ok (.iconst 0, 1) := by decide +kernel
theorem dL_law_3064 : decode cL_law 3064 = .ok (.laload, 1) := by decide +kernel
theorem dL_law_3065 : decode cL_law 3065 = .ok (.iload 7, 2) := by decide +kernel
theorem dL_law_3067 : decode cL_law 3067 = .ok (.i2l, 1) := by decide +kernel
theorem dL_law_3068 : decode cL_law 3068 = .ok (.lcmp, 1) := by decide +kernel
theorem dL_law_3069 : decode cL_law 3069 = .ok (.ifCond .eq 5, 3) := by decide +kernel
theorem dL_law_3072 : decode cL_law 3072 = .ok (.iconst 0, 1) := by decide +kernel
theorem dL_law_3073 : decode cL_law 3073 = .ok (.ireturn, 1) := by decide +kernel
theorem dL_law_3074 : decode cL_law 3074 = .ok (.goto 173, 3) := by decide +kernel
theorem dL_law_3077 : decode cL_law 3077 = .ok (.aload_n 1, 1) := by decide +kernel
theorem dL_law_3078 : decode cL_law 3078 = .ok (.aload_n 0, 1) := by decide +kernel
theorem dL_law_3079 : decode cL_law 3079 = .ok (.iload 5, 2) := by decide +kernel
theorem dL_law_3081 : decode cL_law 3081 = .ok (.iconst 1, 1) := by decide +kernel
theorem dL_law_3082 : decode cL_law 3082 = .ok (.iadd, 1) := by decide +kernel
theorem dL_law_3083 : decode cL_law 3083 = .ok (.iaload, 1) := by decide +kernel
theorem dL_law_3084 : decode cL_law 3084 = .ok (.aload_n 3, 1) := by decide +kernel
theorem dL_law_3085 : decode cL_law 3085 = .ok (.invokestatic 380, 3) := by decide +kernel
theorem dL_law_3088 : decode cL_law 3088 = .ok (.istore 6, 2) := by decide +kernel
theorem dL_law_3090 : decode cL_law 3090 = .ok (.aload_n 2, 1) := by decide +kernel
theorem dL_law_3091 : decode cL_law 3091 = .ok (.aload_n 0, 1) := by decide +kernel
theorem dL_law_3092 : decode cL_law 3092 = .ok (.iload 5, 2) := by decide +kernel
theorem dL_law_3094 : decode cL_law 3094 = .ok (.iconst 1, 1) := by decide +kernel
theorem dL_law_3095 : decode cL_law 3095 = .ok (.iadd, 1) := by decide +kernel
theorem dL_law_3096 : decode cL_law 3096 = .ok (.iaload, 1) := by decide +kernel
theorem dL_law_3097 : decode cL_law 3097 = .ok (.invokevirtual 382, 3) := by decide +kernel
theorem dL_law_3100 : decode cL_law 3100 = .ok (.istore 7, 2) := by decide +kernel
theorem dL_law_3102 : decode cL_law 3102 = .ok (.aload_n 2, 1) := by decide +kernel
theorem dL_law_3103 : decode cL_law 3103 = .ok (.invokevirtual 184, 3) := by decide +kernel
theorem dL_law_3106 : decode cL_law 3106 = .ok (.iload 6, 2) := by decide +kernel
theorem dL_law_3108 : decode cL_law 3108 = .ok (.if_icmp .eq 5, 3) := by decide +kernel
theorem dL_law_3111 : decode cL_law 3111 = .ok (.iconst 0, 1) := by decide +kernel
theorem dL_law_3112 : decode cL_law 3112 = .ok (.ireturn, 1) := by decide +kernel
theorem dL_law_3113 : decode cL_law 3113 = .ok (.iload 6, 2) := by decide +kernel
theorem dL_law_3115 : decode cL_law 3115 = .ok (.ifCond .ne 15, 3) := by decide +kernel
theorem dL_law_3118 : decode cL_law 3118 = .ok (.aload_n 3, 1) := by decide +kernel
theorem dL_law_3119 : decode cL_law 3119 = .ok (.iconst 0, 1) := by decide +kernel
theorem dL_law_3120 : decode cL_law 3120 = .ok (.laload, 1) := by decide +kernel
theorem dL_law_3121 : decode cL_law 3121 = .ok (.iload 7, 2) := by decide +kernel
theorem dL_law_3123 : decode cL_law 3123 = .ok (.i2l, 1) := by decide +kernel
theorem dL_law_3124 : decode cL_law 3124 = .ok (.lcmp, 1) := by decide +kernel
theorem dL_law_3125 : decode cL_law 3125 = .ok (.ifCond .eq 5, 3) := by decide +kernel
theorem dL_law_3128 : decode cL_law 3128 = .ok (.iconst 0, 1) := by decide +kernel
theorem dL_law_3129 : decode cL_law 3129 = .ok (.ireturn, 1) := by decide +kernel
theorem dL_law_3130 : decode cL_law 3130 = .ok (.goto 117, 3) := by decide +kernel
theorem dL_law_3133 : decode cL_law 3133 = .ok (.aload_n 1, 1) := by decide +kernel
theorem dL_law_3134 : decode cL_law 3134 = .ok (.invokevirtual 383, 3) := by decide +kernel
theorem dL_law_3137 : decode cL_law 3137 = .ok (.aload_n 2, 1) := by decide +kernel
theorem dL_law_3138 : decode cL_law 3138 = .ok (.invokevirtual 386, 3) := by decide +kernel
theorem dL_law_3141 : decode cL_law 3141 = .ok (.if_icmp .eq 106, 3) := by decide +kernel
theorem dL_law_3144 : decode cL_law 3144 = .ok (.iconst 0, 1) := by decide +kernel
theorem dL_law_3145 : decode cL_law 3145 = .ok (.ireturn, 1) := by decide +kernel
theorem dL_law_3146 : decode cL_law 3146 = .ok (.aload_n 1, 1) := by decide +kernel
theorem dL_law_3147 : decode cL_law 3147 = .ok (.aload_n 3, 1) := by decide +kernel
theorem dL_law_3148 : decode cL_law 3148 = .ok (.invokestatic 387, 3) := by decide +kernel
theorem dL_law_3151 : decode cL_law 3151 = .ok (.istore 6, 2) := by decide +kernel
theorem dL_law_3153 : decode cL_law 3153 = .ok (.aload_n 2, 1) := by decide +kernel
theorem dL_law_3154 : decode cL_law 3154 = .ok (.invokevirtual 389, 3) := by decide +kernel
theorem dL_law_3157 : decode cL_law 3157 = .ok (.istore 7, 2) := by decide +kernel
theorem dL_law_3159 : decode cL_law 3159 = .ok (.aload_n 2, 1) := by decide +kernel
theorem dL_law_3160 : decode cL_law 3160 = .ok (.invokevirtual 184, 3) := by decide +kernel
theorem dL_law_3163 : decode cL_law 3163 = .ok (.iload 6, 2) := by decide +kernel
theorem dL_law_3165 : decode cL_law 3165 = .ok (.if_icmp .eq 5, 3) := by decide +kernel
theorem dL_law_3168 : decode cL_law 3168 = .ok (.iconst 0, 1) := by decide +kernel
theorem dL_law_3169 : decode cL_law 3169 = .ok (.ireturn, 1) := by decide +kernel
theorem dL_law_3170 : decode cL_law 3170 = .ok (.iload 6, 2) := by decide +kernel
theorem dL_law_3172 : decode cL_law 3172 = .ok (.ifCond .ne 15, 3) := by decide +kernel
theorem dL_law_3175 : decode cL_law 3175 = .ok (.aload_n 3, 1) := by decide +kernel
theorem dL_law_3176 : decode cL_law 3176 = .ok (.iconst 0, 1) := by decide +kernel
theorem dL_law_3177 : decode cL_law 3177 = .ok (.laload, 1) := by decide +kernel
theorem dL_law_3178 : decode cL_law 3178 = .ok (.iload 7, 2) := by decide +kernel
theorem dL_law_3180 : decode cL_law 3180 = .ok (.i2l, 1) := by decide +kernel
theorem dL_law_3181 : decode cL_law 3181 = .ok (.lcmp, 1) := by decide +kernel
theorem dL_law_3182 : decode cL_law 3182 = .ok (.ifCond .eq 5, 3) := by decide +kernel
theorem dL_law_3185 : decode cL_law 3185 = .ok (.iconst 0, 1) := by decide +kernel
theorem dL_law_3186 : decode cL_law 3186 = .ok (.ireturn, 1) := by decide +kernel
theorem dL_law_3187 : decode cL_law 3187 = .ok (.goto 60, 3) := by decide +kernel
theorem dL_law_3190 : decode cL_law 3190 = .ok (.aload_n 1, 1) := by decide +kernel
theorem dL_law_3191 : decode cL_law 3191 = .ok (.invokevirtual 390, 3) := by decide +kernel
theorem dL_law_3194 : decode cL_law 3194 = .ok (.aload_n 2, 1) := by decide +kernel
theorem dL_law_3195 : decode cL_law 3195 = .ok (.invokevirtual 393, 3) := by decide +kernel
theorem dL_law_3198 : decode cL_law 3198 = .ok (.if_icmp .eq 49, 3) := by decide +kernel
theorem dL_law_3201 : decode cL_law 3201 = .ok (.iconst 0, 1) := by decide +kernel
theorem dL_law_3202 : decode cL_law 3202 = .ok (.ireturn, 1) := by decide +kernel
theorem dL_law_3203 : decode cL_law 3203 = .ok (.aload_n 1, 1) := by decide +kernel
theorem dL_law_3204 : decode cL_law 3204 = .ok (.aload_n 3, 1) := by decide +kernel
theorem dL_law_3205 : decode cL_law 3205 = .ok (.invokestatic 394, 3) := by decide +kernel
theorem dL_law_3208 : decode cL_law 3208 = .ok (.istore 6, 2) := by decide +kernel
theorem dL_law_3210 : decode cL_law 3210 = .ok (.aload_n 2, 1) := by decide +kernel
theorem dL_law_3211 : decode cL_law 3211 = .ok (.invokevirtual 396, 3) := by decide +kernel
theorem dL_law_3214 : decode cL_law 3214 = .ok (.istore 7, 2) := by decide +kernel
theorem dL_law_3216 : decode cL_law 3216 = .ok (.aload_n 2, 1) := by decide +kernel
theorem dL_law_3217 : decode cL_law 3217 = .ok (.invokevirtual 184, 3) := by decide +kernel
theorem dL_law_3220 : decode cL_law 3220 = .ok (.iload 6, 2) := by decide +kernel
theorem dL_law_3222 : decode cL_law 3222 = .ok (.if_icmp .eq 5, 3) := by decide +kernel
theorem dL_law_3225 : decode cL_law 3225 = .ok (.iconst 0, 1) := by decide +kernel
theorem dL_law_3226 : decode cL_law 3226 = .ok (.ireturn, 1) := by decide +kernel
theorem dL_law_3227 : decode cL_law 3227 = .ok (.iload 6, 2) := by decide +kernel
theorem dL_law_3229 : decode cL_law 3229 = .ok (.ifCond .ne 15, 3) := by decide +kernel
theorem dL_law_3232 : decode cL_law 3232 = .ok (.aload_n 3, 1) := by decide +kernel
theorem dL_law_3233 : decode cL_law 3233 = .ok (.iconst 0, 1) := by decide +kernel
theorem dL_law_3234 : decode cL_law 3234 = .ok (.laload, 1) := by decide +kernel
theorem dL_law_3235 : decode cL_law 3235 = .ok (.iload 7, 2) := by decide +kernel
theorem dL_law_3237 : decode cL_law 3237 = .ok (.i2l, 1) := by decide +kernel
theorem dL_law_3238 : decode cL_law 3238 = .ok (.lcmp, 1) := by decide +kernel
theorem dL_law_3239 : decode cL_law 3239 = .ok (.ifCond .eq 5, 3) := by decide +kernel
theorem dL_law_3242 : decode cL_law 3242 = .ok (.iconst 0, 1) := by decide +kernel
theorem dL_law_3243 : decode cL_law 3243 = .ok (.ireturn, 1) := by decide +kernel
theorem dL_law_3244 : decode cL_law 3244 = .ok (.goto 3, 3) := by decide +kernel
theorem dL_law_3247 : decode cL_law 3247 = .ok (.iinc 5 6, 3) := by decide +kernel
theorem dL_law_3250 : decode cL_law 3250 = .ok (.goto (-3222), 3) := by decide +kernel
theorem dL_law_3253 : decode cL_law 3253 = .ok (.iconst 1, 1) := by decide +kernel
theorem dL_law_3254 : decode cL_law 3254 = .ok (.ireturn, 1) := by decide +kernel
