/-! rows of the law's helpers -/
theorem dL_open_0 : decode cL_open 0 = .ok (.aload_n 2, 1) := by decide +kernel
theorem dL_open_1 : decode cL_open 1 = .ok (.iconst 0, 1) := by decide +kernel
theorem dL_open_2 : decode cL_open 2 = .ok (.aload_n 0, 1) := by decide +kernel
theorem dL_open_3 : decode cL_open 3 = .ok (.iload_n 1, 1) := by decide +kernel
theorem dL_open_4 : decode cL_open 4 = .ok (.invokevirtual 7, 3) := by decide +kernel
theorem dL_open_7 : decode cL_open 7 = .ok (.i2l, 1) := by decide +kernel
theorem dL_open_8 : decode cL_open 8 = .ok (.lastore, 1) := by decide +kernel
theorem dL_open_9 : decode cL_open 9 = .ok (.goto 9, 3) := by decide +kernel
theorem dL_open_12 : decode cL_open 12 = .ok (.astore_n 3, 1) := by decide +kernel
theorem dL_open_13 : decode cL_open 13 = .ok (.iconst 1, 1) := by decide +kernel
theorem dL_open_14 : decode cL_open 14 = .ok (.ireturn, 1) := by decide +kernel
theorem dL_open_15 : decode cL_open 15 = .ok (.astore_n 3, 1) := by decide +kernel
theorem dL_open_16 : decode cL_open 16 = .ok (.iconst 2, 1) := by decide +kernel
theorem dL_open_17 : decode cL_open 17 = .ok (.ireturn, 1) := by decide +kernel
theorem dL_open_18 : decode cL_open 18 = .ok (.iconst 0, 1) := by decide +kernel
theorem dL_open_19 : decode cL_open 19 = .ok (.ireturn, 1) := by decide +kernel
theorem dL_openBelow_0 : decode cL_openBelow 0 = .ok (.aload_n 2, 1) := by decide +kernel
theorem dL_openBelow_1 : decode cL_openBelow 1 = .ok (.iconst 0, 1) := by decide +kernel
theorem dL_openBelow_2 : decode cL_openBelow 2 = .ok (.aload_n 0, 1) := by decide +kernel
theorem dL_openBelow_3 : decode cL_openBelow 3 = .ok (.iload_n 1, 1) := by decide +kernel
theorem dL_openBelow_4 : decode cL_openBelow 4 = .ok (.invokevirtual 17, 3) := by decide +kernel
theorem dL_openBelow_7 : decode cL_openBelow 7 = .ok (.i2l, 1) := by decide +kernel
theorem dL_openBelow_8 : decode cL_openBelow 8 = .ok (.lastore, 1) := by decide +kernel
theorem dL_openBelow_9 : decode cL_openBelow 9 = .ok (.goto 9, 3) := by decide +kernel
theorem dL_openBelow_12 : decode cL_openBelow 12 = .ok (.astore_n 3, 1) := by decide +kernel
theorem dL_openBelow_13 : decode cL_openBelow 13 = .ok (.iconst 1, 1) := by decide +kernel
theorem dL_openBelow_14 : decode cL_openBelow 14 = .ok (.ireturn, 1) := by decide +kernel
theorem dL_openBelow_15 : decode cL_openBelow 15 = .ok (.astore_n 3, 1) := by decide +kernel
theorem dL_openBelow_16 : decode cL_openBelow 16 = .ok (.iconst 2, 1) := by decide +kernel
theorem dL_openBelow_17 : decode cL_openBelow 17 = .ok (.ireturn, 1) := by decide +kernel
theorem dL_openBelow_18 : decode cL_openBelow 18 = .ok (.iconst 0, 1) := by decide +kernel
theorem dL_openBelow_19 : decode cL_openBelow 19 = .ok (.ireturn, 1) := by decide +kernel
theorem dL_post_0 : decode cL_post 0 = .ok (.aload 4, 2) := by decide +kernel
theorem dL_post_2 : decode cL_post 2 = .ok (.iconst 0, 1) := by decide +kernel
theorem dL_post_3 : decode cL_post 3 = .ok (.aload_n 0, 1) := by decide +kernel
theorem dL_post_4 : decode cL_post 4 = .ok (.iload_n 1, 1) := by decide +kernel
theorem dL_post_5 : decode cL_post 5 = .ok (.iload_n 2, 1) := by decide +kernel
theorem dL_post_6 : decode cL_post 6 = .ok (.iload_n 3, 1) := by decide +kernel
theorem dL_post_7 : decode cL_post 7 = .ok (.invokevirtual 23, 3) := by decide +kernel
theorem dL_post_10 : decode cL_post 10 = .ok (.i2l, 1) := by decide +kernel
theorem dL_post_11 : decode cL_post 11 = .ok (.lastore, 1) := by decide +kernel
theorem dL_post_12 : decode cL_post 12 = .ok (.goto 11, 3) := by decide +kernel
theorem dL_post_15 : decode cL_post 15 = .ok (.astore 5, 2) := by decide +kernel
theorem dL_post_17 : decode cL_post 17 = .ok (.iconst 1, 1) := by decide +kernel
theorem dL_post_18 : decode cL_post 18 = .ok (.ireturn, 1) := by decide +kernel
theorem dL_post_19 : decode cL_post 19 = .ok (.astore 5, 2) := by decide +kernel
theorem dL_post_21 : decode cL_post 21 = .ok (.iconst 2, 1) := by decide +kernel
theorem dL_post_22 : decode cL_post 22 = .ok (.ireturn, 1) := by decide +kernel
theorem dL_post_23 : decode cL_post 23 = .ok (.iconst 0, 1) := by decide +kernel
theorem dL_post_24 : decode cL_post 24 = .ok (.ireturn, 1) := by decide +kernel
theorem dL_reverse_0 : decode cL_reverse 0 = .ok (.aload_n 2, 1) := by decide +kernel
theorem dL_reverse_1 : decode cL_reverse 1 = .ok (.iconst 0, 1) := by decide +kernel
theorem dL_reverse_2 : decode cL_reverse 2 = .ok (.aload_n 0, 1) := by decide +kernel
theorem dL_reverse_3 : decode cL_reverse 3 = .ok (.iload_n 1, 1) := by decide +kernel
theorem dL_reverse_4 : decode cL_reverse 4 = .ok (.invokevirtual 27, 3) := by decide +kernel
theorem dL_reverse_7 : decode cL_reverse 7 = .ok (.i2l, 1) := by decide +kernel
theorem dL_reverse_8 : decode cL_reverse 8 = .ok (.lastore, 1) := by decide +kernel
theorem dL_reverse_9 : decode cL_reverse 9 = .ok (.goto 9, 3) := by decide +kernel
theorem dL_reverse_12 : decode cL_reverse 12 = .ok (.astore_n 3, 1) := by decide +kernel
theorem dL_reverse_13 : decode cL_reverse 13 = .ok (.iconst 1, 1) := by decide +kernel
theorem dL_reverse_14 : decode cL_reverse 14 = .ok (.ireturn, 1) := by decide +kernel
theorem dL_reverse_15 : decode cL_reverse 15 = .ok (.astore_n 3, 1) := by decide +kernel
theorem dL_reverse_16 : decode cL_reverse 16 = .ok (.iconst 2, 1) := by decide +kernel
theorem dL_reverse_17 : decode cL_reverse 17 = .ok (.ireturn, 1) := by decide +kernel
theorem dL_reverse_18 : decode cL_reverse 18 = .ok (.iconst 0, 1) := by decide +kernel
theorem dL_reverse_19 : decode cL_reverse 19 = .ok (.ireturn, 1) := by decide +kernel
theorem dL_prompt_0 : decode cL_prompt 0 = .ok (.aload 6, 2) := by decide +kernel
theorem dL_prompt_2 : decode cL_prompt 2 = .ok (.iconst 0, 1) := by decide +kernel
theorem dL_prompt_3 : decode cL_prompt 3 = .ok (.aload_n 0, 1) := by decide +kernel
theorem dL_prompt_4 : decode cL_prompt 4 = .ok (.iload_n 1, 1) := by decide +kernel
theorem dL_prompt_5 : decode cL_prompt 5 = .ok (.iload_n 2, 1) := by decide +kernel
theorem dL_prompt_6 : decode cL_prompt 6 = .ok (.iload_n 3, 1) := by decide +kernel
theorem dL_prompt_7 : decode cL_prompt 7 = .ok (.iload 4, 2) := by decide +kernel
theorem dL_prompt_9 : decode cL_prompt 9 = .ok (.iload 5, 2) := by decide +kernel
theorem dL_prompt_11 : decode cL_prompt 11 = .ok (.invokevirtual 32, 3) := by decide +kernel
theorem dL_prompt_14 : decode cL_prompt 14 = .ok (.i2l, 1) := by decide +kernel
theorem dL_prompt_15 : decode cL_prompt 15 = .ok (.lastore, 1) := by decide +kernel
theorem dL_prompt_16 : decode cL_prompt 16 = .ok (.goto 15, 3) := by decide +kernel
theorem dL_prompt_19 : decode cL_prompt 19 = .ok (.astore 7, 2) := by decide +kernel
theorem dL_prompt_21 : decode cL_prompt 21 = .ok (.iconst 1, 1) := by decide +kernel
theorem dL_prompt_22 : decode cL_prompt 22 = .ok (.ireturn, 1) := by decide +kernel
theorem dL_prompt_23 : decode cL_prompt 23 = .ok (.astore 7, 2) := by decide +kernel
theorem dL_prompt_25 : decode cL_prompt 25 = .ok (.iconst 2, 1) := by decide +kernel
theorem dL_prompt_26 : decode cL_prompt 26 = .ok (.ireturn, 1) := by decide +kernel
theorem dL_prompt_27 : decode cL_prompt 27 = .ok (.astore 7, 2) := by decide +kernel
theorem dL_prompt_29 : decode cL_prompt 29 = .ok (.iconst 3, 1) := by decide +kernel
theorem dL_prompt_30 : decode cL_prompt 30 = .ok (.ireturn, 1) := by decide +kernel
theorem dL_prompt_31 : decode cL_prompt 31 = .ok (.iconst 0, 1) := by decide +kernel
theorem dL_prompt_32 : decode cL_prompt 32 = .ok (.ireturn, 1) := by decide +kernel
theorem dL_cancelPrompt_0 : decode cL_cancelPrompt 0 = .ok (.aload_n 2, 1) := by decide +kernel
theorem dL_cancelPrompt_1 : decode cL_cancelPrompt 1 = .ok (.iconst 0, 1) := by decide +kernel
theorem dL_cancelPrompt_2 : decode cL_cancelPrompt 2 = .ok (.aload_n 0, 1) := by decide +kernel
theorem dL_cancelPrompt_3 : decode cL_cancelPrompt 3 = .ok (.iload_n 1, 1) := by decide +kernel
theorem dL_cancelPrompt_4 : decode cL_cancelPrompt 4 = .ok (.invokevirtual 36, 3) := by decide +kernel
theorem dL_cancelPrompt_7 : decode cL_cancelPrompt 7 = .ok (.i2l, 1) := by decide +kernel
theorem dL_cancelPrompt_8 : decode cL_cancelPrompt 8 = .ok (.lastore, 1) := by decide +kernel
theorem dL_cancelPrompt_9 : decode cL_cancelPrompt 9 = .ok (.goto 6, 3) := by decide +kernel
theorem dL_cancelPrompt_12 : decode cL_cancelPrompt 12 = .ok (.astore_n 3, 1) := by decide +kernel
theorem dL_cancelPrompt_13 : decode cL_cancelPrompt 13 = .ok (.iconst 1, 1) := by decide +kernel
theorem dL_cancelPrompt_14 : decode cL_cancelPrompt 14 = .ok (.ireturn, 1) := by decide +kernel
theorem dL_cancelPrompt_15 : decode cL_cancelPrompt 15 = .ok (.iconst 0, 1) := by decide +kernel
theorem dL_cancelPrompt_16 : decode cL_cancelPrompt 16 = .ok (.ireturn, 1) := by decide +kernel
theorem dL_passHours_0 : decode cL_passHours 0 = .ok (.aload_n 2, 1) := by decide +kernel
theorem dL_passHours_1 : decode cL_passHours 1 = .ok (.iconst 0, 1) := by decide +kernel
theorem dL_passHours_2 : decode cL_passHours 2 = .ok (.aload_n 0, 1) := by decide +kernel
theorem dL_passHours_3 : decode cL_passHours 3 = .ok (.iload_n 1, 1) := by decide +kernel
theorem dL_passHours_4 : decode cL_passHours 4 = .ok (.invokevirtual 39, 3) := by decide +kernel
theorem dL_passHours_7 : decode cL_passHours 7 = .ok (.i2l, 1) := by decide +kernel
theorem dL_passHours_8 : decode cL_passHours 8 = .ok (.lastore, 1) := by decide +kernel
theorem dL_passHours_9 : decode cL_passHours 9 = .ok (.goto 6, 3) := by decide +kernel
theorem dL_passHours_12 : decode cL_passHours 12 = .ok (.astore_n 3, 1) := by decide +kernel
theorem dL_passHours_13 : decode cL_passHours 13 = .ok (.iconst 1, 1) := by decide +kernel
theorem dL_passHours_14 : decode cL_passHours 14 = .ok (.ireturn, 1) := by decide +kernel
theorem dL_passHours_15 : decode cL_passHours 15 = .ok (.iconst 0, 1) := by decide +kernel
theorem dL_passHours_16 : decode cL_passHours 16 = .ok (.ireturn, 1) := by decide +kernel
theorem dL_buy_0 : decode cL_buy 0 = .ok (.aload_n 3, 1) := by decide +kernel
theorem dL_buy_1 : decode cL_buy 1 = .ok (.iconst 0, 1) := by decide +kernel
theorem dL_buy_2 : decode cL_buy 2 = .ok (.aload_n 0, 1) := by decide +kernel
theorem dL_buy_3 : decode cL_buy 3 = .ok (.iload_n 1, 1) := by decide +kernel
theorem dL_buy_4 : decode cL_buy 4 = .ok (.iload_n 2, 1) := by decide +kernel
theorem dL_buy_5 : decode cL_buy 5 = .ok (.invokevirtual 42, 3) := by decide +kernel
theorem dL_buy_8 : decode cL_buy 8 = .ok (.i2l, 1) := by decide +kernel
theorem dL_buy_9 : decode cL_buy 9 = .ok (.lastore, 1) := by decide +kernel
theorem dL_buy_10 : decode cL_buy 10 = .ok (.goto 15, 3) := by decide +kernel
theorem dL_buy_13 : decode cL_buy 13 = .ok (.astore 4, 2) := by decide +kernel
theorem dL_buy_15 : decode cL_buy 15 = .ok (.iconst 1, 1) := by decide +kernel
theorem dL_buy_16 : decode cL_buy 16 = .ok (.ireturn, 1) := by decide +kernel
theorem dL_buy_17 : decode cL_buy 17 = .ok (.astore 4, 2) := by decide +kernel
theorem dL_buy_19 : decode cL_buy 19 = .ok (.iconst 2, 1) := by decide +kernel
theorem dL_buy_20 : decode cL_buy 20 = .ok (.ireturn, 1) := by decide +kernel
theorem dL_buy_21 : decode cL_buy 21 = .ok (.astore 4, 2) := by decide +kernel
theorem dL_buy_23 : decode cL_buy 23 = .ok (.iconst 3, 1) := by decide +kernel
theorem dL_buy_24 : decode cL_buy 24 = .ok (.ireturn, 1) := by decide +kernel
theorem dL_buy_25 : decode cL_buy 25 = .ok (.iconst 0, 1) := by decide +kernel
theorem dL_buy_26 : decode cL_buy 26 = .ok (.ireturn, 1) := by decide +kernel
theorem dL_sell_0 : decode cL_sell 0 = .ok (.aload_n 3, 1) := by decide +kernel
theorem dL_sell_1 : decode cL_sell 1 = .ok (.iconst 0, 1) := by decide +kernel
theorem dL_sell_2 : decode cL_sell 2 = .ok (.aload_n 0, 1) := by decide +kernel
theorem dL_sell_3 : decode cL_sell 3 = .ok (.iload_n 1, 1) := by decide +kernel
theorem dL_sell_4 : decode cL_sell 4 = .ok (.iload_n 2, 1) := by decide +kernel
theorem dL_sell_5 : decode cL_sell 5 = .ok (.invokevirtual 48, 3) := by decide +kernel
theorem dL_sell_8 : decode cL_sell 8 = .ok (.i2l, 1) := by decide +kernel
theorem dL_sell_9 : decode cL_sell 9 = .ok (.lastore, 1) := by decide +kernel
theorem dL_sell_10 : decode cL_sell 10 = .ok (.goto 11, 3) := by decide +kernel
theorem dL_sell_13 : decode cL_sell 13 = .ok (.astore 4, 2) := by decide +kernel
theorem dL_sell_15 : decode cL_sell 15 = .ok (.iconst 1, 1) := by decide +kernel
theorem dL_sell_16 : decode cL_sell 16 = .ok (.ireturn, 1) := by decide +kernel
theorem dL_sell_17 : decode cL_sell 17 = .ok (.astore 4, 2) := by decide +kernel
theorem dL_sell_19 : decode cL_sell 19 = .ok (.iconst 2, 1) := by decide +kernel
theorem dL_sell_20 : decode cL_sell 20 = .ok (.ireturn, 1) := by decide +kernel
theorem dL_sell_21 : decode cL_sell 21 = .ok (.iconst 0, 1) := by decide +kernel
theorem dL_sell_22 : decode cL_sell 22 = .ok (.ireturn, 1) := by decide +kernel
theorem dL_bill_0 : decode cL_bill 0 = .ok (.aload_n 2, 1) := by decide +kernel
theorem dL_bill_1 : decode cL_bill 1 = .ok (.iconst 0, 1) := by decide +kernel
theorem dL_bill_2 : decode cL_bill 2 = .ok (.aload_n 0, 1) := by decide +kernel
theorem dL_bill_3 : decode cL_bill 3 = .ok (.iload_n 1, 1) := by decide +kernel
theorem dL_bill_4 : decode cL_bill 4 = .ok (.invokevirtual 51, 3) := by decide +kernel
theorem dL_bill_7 : decode cL_bill 7 = .ok (.i2l, 1) := by decide +kernel
theorem dL_bill_8 : decode cL_bill 8 = .ok (.lastore, 1) := by decide +kernel
theorem dL_bill_9 : decode cL_bill 9 = .ok (.goto 9, 3) := by decide +kernel
theorem dL_bill_12 : decode cL_bill 12 = .ok (.astore_n 3, 1) := by decide +kernel
theorem dL_bill_13 : decode cL_bill 13 = .ok (.iconst 1, 1) := by decide +kernel
theorem dL_bill_14 : decode cL_bill 14 = .ok (.ireturn, 1) := by decide +kernel
theorem dL_bill_15 : decode cL_bill 15 = .ok (.astore_n 3, 1) := by decide +kernel
theorem dL_bill_16 : decode cL_bill 16 = .ok (.iconst 2, 1) := by decide +kernel
theorem dL_bill_17 : decode cL_bill 17 = .ok (.ireturn, 1) := by decide +kernel
theorem dL_bill_18 : decode cL_bill 18 = .ok (.iconst 0, 1) := by decide +kernel
theorem dL_bill_19 : decode cL_bill 19 = .ok (.ireturn, 1) := by decide +kernel
theorem dL_pay_0 : decode cL_pay 0 = .ok (.aload_n 2, 1) := by decide +kernel
theorem dL_pay_1 : decode cL_pay 1 = .ok (.iconst 0, 1) := by decide +kernel
theorem dL_pay_2 : decode cL_pay 2 = .ok (.aload_n 0, 1) := by decide +kernel
theorem dL_pay_3 : decode cL_pay 3 = .ok (.iload_n 1, 1) := by decide +kernel
theorem dL_pay_4 : decode cL_pay 4 = .ok (.invokevirtual 54, 3) := by decide +kernel
theorem dL_pay_7 : decode cL_pay 7 = .ok (.i2l, 1) := by decide +kernel
theorem dL_pay_8 : decode cL_pay 8 = .ok (.lastore, 1) := by decide +kernel
theorem dL_pay_9 : decode cL_pay 9 = .ok (.goto 9, 3) := by decide +kernel
theorem dL_pay_12 : decode cL_pay 12 = .ok (.astore_n 3, 1) := by decide +kernel
theorem dL_pay_13 : decode cL_pay 13 = .ok (.iconst 1, 1) := by decide +kernel
theorem dL_pay_14 : decode cL_pay 14 = .ok (.ireturn, 1) := by decide +kernel
theorem dL_pay_15 : decode cL_pay 15 = .ok (.astore_n 3, 1) := by decide +kernel
theorem dL_pay_16 : decode cL_pay 16 = .ok (.iconst 2, 1) := by decide +kernel
theorem dL_pay_17 : decode cL_pay 17 = .ok (.ireturn, 1) := by decide +kernel
theorem dL_pay_18 : decode cL_pay 18 = .ok (.iconst 0, 1) := by decide +kernel
theorem dL_pay_19 : decode cL_pay 19 = .ok (.ireturn, 1) := by decide +kernel
theorem dL_kind_0 : decode cL_kind 0 = .ok (.aload_n 2, 1) := by decide +kernel
theorem dL_kind_1 : decode cL_kind 1 = .ok (.iconst 0, 1) := by decide +kernel
theorem dL_kind_2 : decode cL_kind 2 = .ok (.aload_n 0, 1) := by decide +kernel
theorem dL_kind_3 : decode cL_kind 3 = .ok (.iload_n 1, 1) := by decide +kernel
theorem dL_kind_4 : decode cL_kind 4 = .ok (.invokevirtual 57, 3) := by decide +kernel
theorem dL_kind_7 : decode cL_kind 7 = .ok (.i2l, 1) := by decide +kernel
theorem dL_kind_8 : decode cL_kind 8 = .ok (.lastore, 1) := by decide +kernel
theorem dL_kind_9 : decode cL_kind 9 = .ok (.goto 6, 3) := by decide +kernel
theorem dL_kind_12 : decode cL_kind 12 = .ok (.astore_n 3, 1) := by decide +kernel
theorem dL_kind_13 : decode cL_kind 13 = .ok (.iconst 1, 1) := by decide +kernel
theorem dL_kind_14 : decode cL_kind 14 = .ok (.ireturn, 1) := by decide +kernel
theorem dL_kind_15 : decode cL_kind 15 = .ok (.iconst 0, 1) := by decide +kernel
theorem dL_kind_16 : decode cL_kind 16 = .ok (.ireturn, 1) := by decide +kernel
theorem dL_parent_0 : decode cL_parent 0 = .ok (.aload_n 2, 1) := by decide +kernel
theorem dL_parent_1 : decode cL_parent 1 = .ok (.iconst 0, 1) := by decide +kernel
theorem dL_parent_2 : decode cL_parent 2 = .ok (.aload_n 0, 1) := by decide +kernel
theorem dL_parent_3 : decode cL_parent 3 = .ok (.iload_n 1, 1) := by decide +kernel
theorem dL_parent_4 : decode cL_parent 4 = .ok (.invokevirtual 61, 3) := by decide +kernel
theorem dL_parent_7 : decode cL_parent 7 = .ok (.i2l, 1) := by decide +kernel
theorem dL_parent_8 : decode cL_parent 8 = .ok (.lastore, 1) := by decide +kernel
theorem dL_parent_9 : decode cL_parent 9 = .ok (.goto 9, 3) := by decide +kernel
theorem dL_parent_12 : decode cL_parent 12 = .ok (.astore_n 3, 1) := by decide +kernel
theorem dL_parent_13 : decode cL_parent 13 = .ok (.iconst 1, 1) := by decide +kernel
theorem dL_parent_14 : decode cL_parent 14 = .ok (.ireturn, 1) := by decide +kernel
theorem dL_parent_15 : decode cL_parent 15 = .ok (.astore_n 3, 1) := by decide +kernel
theorem dL_parent_16 : decode cL_parent 16 = .ok (.iconst 2, 1) := by decide +kernel
theorem dL_parent_17 : decode cL_parent 17 = .ok (.ireturn, 1) := by decide +kernel
theorem dL_parent_18 : decode cL_parent 18 = .ok (.iconst 0, 1) := by decide +kernel
theorem dL_parent_19 : decode cL_parent 19 = .ok (.ireturn, 1) := by decide +kernel
theorem dL_debits_0 : decode cL_debits 0 = .ok (.aload_n 2, 1) := by decide +kernel
theorem dL_debits_1 : decode cL_debits 1 = .ok (.iconst 0, 1) := by decide +kernel
theorem dL_debits_2 : decode cL_debits 2 = .ok (.aload_n 0, 1) := by decide +kernel
theorem dL_debits_3 : decode cL_debits 3 = .ok (.iload_n 1, 1) := by decide +kernel
theorem dL_debits_4 : decode cL_debits 4 = .ok (.invokevirtual 64, 3) := by decide +kernel
theorem dL_debits_7 : decode cL_debits 7 = .ok (.lastore, 1) := by decide +kernel
theorem dL_debits_8 : decode cL_debits 8 = .ok (.goto 6, 3) := by decide +kernel
theorem dL_debits_11 : decode cL_debits 11 = .ok (.astore_n 3, 1) := by decide +kernel
theorem dL_debits_12 : decode cL_debits 12 = .ok (.iconst 1, 1) := by decide +kernel
theorem dL_debits_13 : decode cL_debits 13 = .ok (.ireturn, 1) := by decide +kernel
theorem dL_debits_14 : decode cL_debits 14 = .ok (.iconst 0, 1) := by decide +kernel
theorem dL_debits_15 : decode cL_debits 15 = .ok (.ireturn, 1) := by decide +kernel
theorem dL_credits_0 : decode cL_credits 0 = .ok (.aload_n 2, 1) := by decide +kernel
theorem dL_credits_1 : decode cL_credits 1 = .ok (.iconst 0, 1) := by decide +kernel
theorem dL_credits_2 : decode cL_credits 2 = .ok (.aload_n 0, 1) := by decide +kernel
theorem dL_credits_3 : decode cL_credits 3 = .ok (.iload_n 1, 1) := by decide +kernel
theorem dL_credits_4 : decode cL_credits 4 = .ok (.invokevirtual 68, 3) := by decide +kernel
theorem dL_credits_7 : decode cL_credits 7 = .ok (.lastore, 1) := by decide +kernel
theorem dL_credits_8 : decode cL_credits 8 = .ok (.goto 6, 3) := by decide +kernel
theorem dL_credits_11 : decode cL_credits 11 = .ok (.astore_n 3, 1) := by decide +kernel
theorem dL_credits_12 : decode cL_credits 12 = .ok (.iconst 1, 1) := by decide +kernel
theorem dL_credits_13 : decode cL_credits 13 = .ok (.ireturn, 1) := by decide +kernel
theorem dL_credits_14 : decode cL_credits 14 = .ok (.iconst 0, 1) := by decide +kernel
theorem dL_credits_15 : decode cL_credits 15 = .ok (.ireturn, 1) := by decide +kernel
theorem dL_balance_0 : decode cL_balance 0 = .ok (.aload_n 2, 1) := by decide +kernel
theorem dL_balance_1 : decode cL_balance 1 = .ok (.iconst 0, 1) := by decide +kernel
theorem dL_balance_2 : decode cL_balance 2 = .ok (.aload_n 0, 1) := by decide +kernel
theorem dL_balance_3 : decode cL_balance 3 = .ok (.iload_n 1, 1) := by decide +kernel
theorem dL_balance_4 : decode cL_balance 4 = .ok (.invokevirtual 71, 3) := by decide +kernel
theorem dL_balance_7 : decode cL_balance 7 = .ok (.lastore, 1) := by decide +kernel
theorem dL_balance_8 : decode cL_balance 8 = .ok (.goto 6, 3) := by decide +kernel
theorem dL_balance_11 : decode cL_balance 11 = .ok (.astore_n 3, 1) := by decide +kernel
theorem dL_balance_12 : decode cL_balance 12 = .ok (.iconst 1, 1) := by decide +kernel
theorem dL_balance_13 : decode cL_balance 13 = .ok (.ireturn, 1) := by decide +kernel
theorem dL_balance_14 : decode cL_balance 14 = .ok (.iconst 0, 1) := by decide +kernel
theorem dL_balance_15 : decode cL_balance 15 = .ok (.ireturn, 1) := by decide +kernel
theorem dL_treeBalance_0 : decode cL_treeBalance 0 = .ok (.aload_n 2, 1) := by decide +kernel
theorem dL_treeBalance_1 : decode cL_treeBalance 1 = .ok (.iconst 0, 1) := by decide +kernel
theorem dL_treeBalance_2 : decode cL_treeBalance 2 = .ok (.aload_n 0, 1) := by decide +kernel
theorem dL_treeBalance_3 : decode cL_treeBalance 3 = .ok (.iload_n 1, 1) := by decide +kernel
theorem dL_treeBalance_4 : decode cL_treeBalance 4 = .ok (.invokevirtual 74, 3) := by decide +kernel
theorem dL_treeBalance_7 : decode cL_treeBalance 7 = .ok (.lastore, 1) := by decide +kernel
theorem dL_treeBalance_8 : decode cL_treeBalance 8 = .ok (.goto 6, 3) := by decide +kernel
theorem dL_treeBalance_11 : decode cL_treeBalance 11 = .ok (.astore_n 3, 1) := by decide +kernel
theorem dL_treeBalance_12 : decode cL_treeBalance 12 = .ok (.iconst 1, 1) := by decide +kernel
theorem dL_treeBalance_13 : decode cL_treeBalance 13 = .ok (.ireturn, 1) := by decide +kernel
theorem dL_treeBalance_14 : decode cL_treeBalance 14 = .ok (.iconst 0, 1) := by decide +kernel
theorem dL_treeBalance_15 : decode cL_treeBalance 15 = .ok (.ireturn, 1) := by decide +kernel
theorem dL_treeBalanceByParents_0 : decode cL_treeBalanceByParents 0 = .ok (.aload_n 2, 1) := by decide +kernel
theorem dL_treeBalanceByParents_1 : decode cL_treeBalanceByParents 1 = .ok (.iconst 0, 1) := by decide +kernel
theorem dL_treeBalanceByParents_2 : decode cL_treeBalanceByParents 2 = .ok (.aload_n 0, 1) := by decide +kernel
theorem dL_treeBalanceByParents_3 : decode cL_treeBalanceByParents 3 = .ok (.iload_n 1, 1) := by decide +kernel
theorem dL_treeBalanceByParents_4 : decode cL_treeBalanceByParents 4 = .ok (.invokevirtual 77, 3) := by decide +kernel
theorem dL_treeBalanceByParents_7 : decode cL_treeBalanceByParents 7 = .ok (.lastore, 1) := by decide +kernel
theorem dL_treeBalanceByParents_8 : decode cL_treeBalanceByParents 8 = .ok (.goto 6, 3) := by decide +kernel
theorem dL_treeBalanceByParents_11 : decode cL_treeBalanceByParents 11 = .ok (.astore_n 3, 1) := by decide +kernel
theorem dL_treeBalanceByParents_12 : decode cL_treeBalanceByParents 12 = .ok (.iconst 1, 1) := by decide +kernel
theorem dL_treeBalanceByParents_13 : decode cL_treeBalanceByParents 13 = .ok (.ireturn, 1) := by decide +kernel
theorem dL_treeBalanceByParents_14 : decode cL_treeBalanceByParents 14 = .ok (.iconst 0, 1) := by decide +kernel
theorem dL_treeBalanceByParents_15 : decode cL_treeBalanceByParents 15 = .ok (.ireturn, 1) := by decide +kernel
theorem dL_treeSize_0 : decode cL_treeSize 0 = .ok (.aload_n 2, 1) := by decide +kernel
theorem dL_treeSize_1 : decode cL_treeSize 1 = .ok (.iconst 0, 1) := by decide +kernel
theorem dL_treeSize_2 : decode cL_treeSize 2 = .ok (.aload_n 0, 1) := by decide +kernel
theorem dL_treeSize_3 : decode cL_treeSize 3 = .ok (.iload_n 1, 1) := by decide +kernel
theorem dL_treeSize_4 : decode cL_treeSize 4 = .ok (.invokevirtual 80, 3) := by decide +kernel
theorem dL_treeSize_7 : decode cL_treeSize 7 = .ok (.i2l, 1) := by decide +kernel
theorem dL_treeSize_8 : decode cL_treeSize 8 = .ok (.lastore, 1) := by decide +kernel
theorem dL_treeSize_9 : decode cL_treeSize 9 = .ok (.goto 6, 3) := by decide +kernel
theorem dL_treeSize_12 : decode cL_treeSize 12 = .ok (.astore_n 3, 1) := by decide +kernel
theorem dL_treeSize_13 : decode cL_treeSize 13 = .ok (.iconst 1, 1) := by decide +kernel
theorem dL_treeSize_14 : decode cL_treeSize 14 = .ok (.ireturn, 1) := by decide +kernel
theorem dL_treeSize_15 : decode cL_treeSize 15 = .ok (.iconst 0, 1) := by decide +kernel
theorem dL_treeSize_16 : decode cL_treeSize 16 = .ok (.ireturn, 1) := by decide +kernel
theorem dL_entryAt_0 : decode cL_entryAt 0 = .ok (.aload_n 2, 1) := by decide +kernel
theorem dL_entryAt_1 : decode cL_entryAt 1 = .ok (.iconst 0, 1) := by decide +kernel
theorem dL_entryAt_2 : decode cL_entryAt 2 = .ok (.aload_n 0, 1) := by decide +kernel
theorem dL_entryAt_3 : decode cL_entryAt 3 = .ok (.iload_n 1, 1) := by decide +kernel
theorem dL_entryAt_4 : decode cL_entryAt 4 = .ok (.invokevirtual 83, 3) := by decide +kernel
theorem dL_entryAt_7 : decode cL_entryAt 7 = .ok (.i2l, 1) := by decide +kernel
theorem dL_entryAt_8 : decode cL_entryAt 8 = .ok (.lastore, 1) := by decide +kernel
theorem dL_entryAt_9 : decode cL_entryAt 9 = .ok (.goto 6, 3) := by decide +kernel
theorem dL_entryAt_12 : decode cL_entryAt 12 = .ok (.astore_n 3, 1) := by decide +kernel
theorem dL_entryAt_13 : decode cL_entryAt 13 = .ok (.iconst 1, 1) := by decide +kernel
theorem dL_entryAt_14 : decode cL_entryAt 14 = .ok (.ireturn, 1) := by decide +kernel
theorem dL_entryAt_15 : decode cL_entryAt 15 = .ok (.iconst 0, 1) := by decide +kernel
theorem dL_entryAt_16 : decode cL_entryAt 16 = .ok (.ireturn, 1) := by decide +kernel
theorem dL_debitOf_0 : decode cL_debitOf 0 = .ok (.aload_n 2, 1) := by decide +kernel
theorem dL_debitOf_1 : decode cL_debitOf 1 = .ok (.iconst 0, 1) := by decide +kernel
theorem dL_debitOf_2 : decode cL_debitOf 2 = .ok (.aload_n 0, 1) := by decide +kernel
theorem dL_debitOf_3 : decode cL_debitOf 3 = .ok (.iload_n 1, 1) := by decide +kernel
theorem dL_debitOf_4 : decode cL_debitOf 4 = .ok (.invokevirtual 86, 3) := by decide +kernel
theorem dL_debitOf_7 : decode cL_debitOf 7 = .ok (.i2l, 1) := by decide +kernel
theorem dL_debitOf_8 : decode cL_debitOf 8 = .ok (.lastore, 1) := by decide +kernel
theorem dL_debitOf_9 : decode cL_debitOf 9 = .ok (.goto 6, 3) := by decide +kernel
theorem dL_debitOf_12 : decode cL_debitOf 12 = .ok (.astore_n 3, 1) := by decide +kernel
theorem dL_debitOf_13 : decode cL_debitOf 13 = .ok (.iconst 1, 1) := by decide +kernel
theorem dL_debitOf_14 : decode cL_debitOf 14 = .ok (.ireturn, 1) := by decide +kernel
theorem dL_debitOf_15 : decode cL_debitOf 15 = .ok (.iconst 0, 1) := by decide +kernel
theorem dL_debitOf_16 : decode cL_debitOf 16 = .ok (.ireturn, 1) := by decide +kernel
theorem dL_creditOf_0 : decode cL_creditOf 0 = .ok (.aload_n 2, 1) := by decide +kernel
theorem dL_creditOf_1 : decode cL_creditOf 1 = .ok (.iconst 0, 1) := by decide +kernel
theorem dL_creditOf_2 : decode cL_creditOf 2 = .ok (.aload_n 0, 1) := by decide +kernel
theorem dL_creditOf_3 : decode cL_creditOf 3 = .ok (.iload_n 1, 1) := by decide +kernel
theorem dL_creditOf_4 : decode cL_creditOf 4 = .ok (.invokevirtual 89, 3) := by decide +kernel
theorem dL_creditOf_7 : decode cL_creditOf 7 = .ok (.i2l, 1) := by decide +kernel
theorem dL_creditOf_8 : decode cL_creditOf 8 = .ok (.lastore, 1) := by decide +kernel
theorem dL_creditOf_9 : decode cL_creditOf 9 = .ok (.goto 6, 3) := by decide +kernel
theorem dL_creditOf_12 : decode cL_creditOf 12 = .ok (.astore_n 3, 1) := by decide +kernel
theorem dL_creditOf_13 : decode cL_creditOf 13 = .ok (.iconst 1, 1) := by decide +kernel
theorem dL_creditOf_14 : decode cL_creditOf 14 = .ok (.ireturn, 1) := by decide +kernel
theorem dL_creditOf_15 : decode cL_creditOf 15 = .ok (.iconst 0, 1) := by decide +kernel
theorem dL_creditOf_16 : decode cL_creditOf 16 = .ok (.ireturn, 1) := by decide +kernel
theorem dL_amountOf_0 : decode cL_amountOf 0 = .ok (.aload_n 2, 1) := by decide +kernel
theorem dL_amountOf_1 : decode cL_amountOf 1 = .ok (.iconst 0, 1) := by decide +kernel
theorem dL_amountOf_2 : decode cL_amountOf 2 = .ok (.aload_n 0, 1) := by decide +kernel
theorem dL_amountOf_3 : decode cL_amountOf 3 = .ok (.iload_n 1, 1) := by decide +kernel
theorem dL_amountOf_4 : decode cL_amountOf 4 = .ok (.invokevirtual 92, 3) := by decide +kernel
theorem dL_amountOf_7 : decode cL_amountOf 7 = .ok (.lastore, 1) := by decide +kernel
theorem dL_amountOf_8 : decode cL_amountOf 8 = .ok (.goto 6, 3) := by decide +kernel
theorem dL_amountOf_11 : decode cL_amountOf 11 = .ok (.astore_n 3, 1) := by decide +kernel
theorem dL_amountOf_12 : decode cL_amountOf 12 = .ok (.iconst 1, 1) := by decide +kernel
theorem dL_amountOf_13 : decode cL_amountOf 13 = .ok (.ireturn, 1) := by decide +kernel
theorem dL_amountOf_14 : decode cL_amountOf 14 = .ok (.iconst 0, 1) := by decide +kernel
theorem dL_amountOf_15 : decode cL_amountOf 15 = .ok (.ireturn, 1) := by decide +kernel
theorem dL_hourOf_0 : decode cL_hourOf 0 = .ok (.aload_n 2, 1) := by decide +kernel
theorem dL_hourOf_1 : decode cL_hourOf 1 = .ok (.iconst 0, 1) := by decide +kernel
theorem dL_hourOf_2 : decode cL_hourOf 2 = .ok (.aload_n 0, 1) := by decide +kernel
theorem dL_hourOf_3 : decode cL_hourOf 3 = .ok (.iload_n 1, 1) := by decide +kernel
theorem dL_hourOf_4 : decode cL_hourOf 4 = .ok (.invokevirtual 95, 3) := by decide +kernel
theorem dL_hourOf_7 : decode cL_hourOf 7 = .ok (.i2l, 1) := by decide +kernel
theorem dL_hourOf_8 : decode cL_hourOf 8 = .ok (.lastore, 1) := by decide +kernel
theorem dL_hourOf_9 : decode cL_hourOf 9 = .ok (.goto 6, 3) := by decide +kernel
theorem dL_hourOf_12 : decode cL_hourOf 12 = .ok (.astore_n 3, 1) := by decide +kernel
theorem dL_hourOf_13 : decode cL_hourOf 13 = .ok (.iconst 1, 1) := by decide +kernel
theorem dL_hourOf_14 : decode cL_hourOf 14 = .ok (.ireturn, 1) := by decide +kernel
theorem dL_hourOf_15 : decode cL_hourOf 15 = .ok (.iconst 0, 1) := by decide +kernel
theorem dL_hourOf_16 : decode cL_hourOf 16 = .ok (.ireturn, 1) := by decide +kernel
theorem dL_isReversed_0 : decode cL_isReversed 0 = .ok (.aload_n 2, 1) := by decide +kernel
theorem dL_isReversed_1 : decode cL_isReversed 1 = .ok (.iconst 0, 1) := by decide +kernel
theorem dL_isReversed_2 : decode cL_isReversed 2 = .ok (.aload_n 0, 1) := by decide +kernel
theorem dL_isReversed_3 : decode cL_isReversed 3 = .ok (.iload_n 1, 1) := by decide +kernel
theorem dL_isReversed_4 : decode cL_isReversed 4 = .ok (.invokevirtual 98, 3) := by decide +kernel
theorem dL_isReversed_7 : decode cL_isReversed 7 = .ok (.ifCond .eq 7, 3) := by decide +kernel
theorem dL_isReversed_10 : decode cL_isReversed 10 = .ok (.lconst 1, 1) := by decide +kernel
theorem dL_isReversed_11 : decode cL_isReversed 11 = .ok (.goto 4, 3) := by decide +kernel
theorem dL_isReversed_14 : decode cL_isReversed 14 = .ok (.lconst 0, 1) := by decide +kernel
theorem dL_isReversed_15 : decode cL_isReversed 15 = .ok (.lastore, 1) := by decide +kernel
theorem dL_isReversed_16 : decode cL_isReversed 16 = .ok (.goto 6, 3) := by decide +kernel
theorem dL_isReversed_19 : decode cL_isReversed 19 = .ok (.astore_n 3, 1) := by decide +kernel
theorem dL_isReversed_20 : decode cL_isReversed 20 = .ok (.iconst 1, 1) := by decide +kernel
theorem dL_isReversed_21 : decode cL_isReversed 21 = .ok (.ireturn, 1) := by decide +kernel
theorem dL_isReversed_22 : decode cL_isReversed 22 = .ok (.iconst 0, 1) := by decide +kernel
theorem dL_isReversed_23 : decode cL_isReversed 23 = .ok (.ireturn, 1) := by decide +kernel
theorem dL_hoursUntilPrompt_0 : decode cL_hoursUntilPrompt 0 = .ok (.aload_n 2, 1) := by decide +kernel
theorem dL_hoursUntilPrompt_1 : decode cL_hoursUntilPrompt 1 = .ok (.iconst 0, 1) := by decide +kernel
theorem dL_hoursUntilPrompt_2 : decode cL_hoursUntilPrompt 2 = .ok (.aload_n 0, 1) := by decide +kernel
theorem dL_hoursUntilPrompt_3 : decode cL_hoursUntilPrompt 3 = .ok (.iload_n 1, 1) := by decide +kernel
theorem dL_hoursUntilPrompt_4 : decode cL_hoursUntilPrompt 4 = .ok (.invokevirtual 102, 3) := by decide +kernel
theorem dL_hoursUntilPrompt_7 : decode cL_hoursUntilPrompt 7 = .ok (.i2l, 1) := by decide +kernel
theorem dL_hoursUntilPrompt_8 : decode cL_hoursUntilPrompt 8 = .ok (.lastore, 1) := by decide +kernel
theorem dL_hoursUntilPrompt_9 : decode cL_hoursUntilPrompt 9 = .ok (.goto 6, 3) := by decide +kernel
theorem dL_hoursUntilPrompt_12 : decode cL_hoursUntilPrompt 12 = .ok (.astore_n 3, 1) := by decide +kernel
theorem dL_hoursUntilPrompt_13 : decode cL_hoursUntilPrompt 13 = .ok (.iconst 1, 1) := by decide +kernel
theorem dL_hoursUntilPrompt_14 : decode cL_hoursUntilPrompt 14 = .ok (.ireturn, 1) := by decide +kernel
theorem dL_hoursUntilPrompt_15 : decode cL_hoursUntilPrompt 15 = .ok (.iconst 0, 1) := by decide +kernel
theorem dL_hoursUntilPrompt_16 : decode cL_hoursUntilPrompt 16 = .ok (.ireturn, 1) := by decide +kernel
theorem dL_timesLeft_0 : decode cL_timesLeft 0 = .ok (.aload_n 2, 1) := by decide +kernel
theorem dL_timesLeft_1 : decode cL_timesLeft 1 = .ok (.iconst 0, 1) := by decide +kernel
theorem dL_timesLeft_2 : decode cL_timesLeft 2 = .ok (.aload_n 0, 1) := by decide +kernel
theorem dL_timesLeft_3 : decode cL_timesLeft 3 = .ok (.iload_n 1, 1) := by decide +kernel
theorem dL_timesLeft_4 : decode cL_timesLeft 4 = .ok (.invokevirtual 105, 3) := by decide +kernel
theorem dL_timesLeft_7 : decode cL_timesLeft 7 = .ok (.i2l, 1) := by decide +kernel
theorem dL_timesLeft_8 : decode cL_timesLeft 8 = .ok (.lastore, 1) := by decide +kernel
theorem dL_timesLeft_9 : decode cL_timesLeft 9 = .ok (.goto 6, 3) := by decide +kernel
theorem dL_timesLeft_12 : decode cL_timesLeft 12 = .ok (.astore_n 3, 1) := by decide +kernel
theorem dL_timesLeft_13 : decode cL_timesLeft 13 = .ok (.iconst 1, 1) := by decide +kernel
theorem dL_timesLeft_14 : decode cL_timesLeft 14 = .ok (.ireturn, 1) := by decide +kernel
theorem dL_timesLeft_15 : decode cL_timesLeft 15 = .ok (.iconst 0, 1) := by decide +kernel
theorem dL_timesLeft_16 : decode cL_timesLeft 16 = .ok (.ireturn, 1) := by decide +kernel
theorem dL_cashIn_0 : decode cL_cashIn 0 = .ok (.aload_n 2, 1) := by decide +kernel
theorem dL_cashIn_1 : decode cL_cashIn 1 = .ok (.iconst 0, 1) := by decide +kernel
theorem dL_cashIn_2 : decode cL_cashIn 2 = .ok (.aload_n 0, 1) := by decide +kernel
theorem dL_cashIn_3 : decode cL_cashIn 3 = .ok (.iload_n 1, 1) := by decide +kernel
theorem dL_cashIn_4 : decode cL_cashIn 4 = .ok (.invokevirtual 108, 3) := by decide +kernel
theorem dL_cashIn_7 : decode cL_cashIn 7 = .ok (.lastore, 1) := by decide +kernel
theorem dL_cashIn_8 : decode cL_cashIn 8 = .ok (.goto 6, 3) := by decide +kernel
theorem dL_cashIn_11 : decode cL_cashIn 11 = .ok (.astore_n 3, 1) := by decide +kernel
theorem dL_cashIn_12 : decode cL_cashIn 12 = .ok (.iconst 1, 1) := by decide +kernel
theorem dL_cashIn_13 : decode cL_cashIn 13 = .ok (.ireturn, 1) := by decide +kernel
theorem dL_cashIn_14 : decode cL_cashIn 14 = .ok (.iconst 0, 1) := by decide +kernel
theorem dL_cashIn_15 : decode cL_cashIn 15 = .ok (.ireturn, 1) := by decide +kernel
theorem dL_costOf_0 : decode cL_costOf 0 = .ok (.aload_n 2, 1) := by decide +kernel
theorem dL_costOf_1 : decode cL_costOf 1 = .ok (.iconst 0, 1) := by decide +kernel
theorem dL_costOf_2 : decode cL_costOf 2 = .ok (.aload_n 0, 1) := by decide +kernel
theorem dL_costOf_3 : decode cL_costOf 3 = .ok (.iload_n 1, 1) := by decide +kernel
theorem dL_costOf_4 : decode cL_costOf 4 = .ok (.invokevirtual 111, 3) := by decide +kernel
theorem dL_costOf_7 : decode cL_costOf 7 = .ok (.i2l, 1) := by decide +kernel
theorem dL_costOf_8 : decode cL_costOf 8 = .ok (.lastore, 1) := by decide +kernel
theorem dL_costOf_9 : decode cL_costOf 9 = .ok (.goto 9, 3) := by decide +kernel
theorem dL_costOf_12 : decode cL_costOf 12 = .ok (.astore_n 3, 1) := by decide +kernel
theorem dL_costOf_13 : decode cL_costOf 13 = .ok (.iconst 1, 1) := by decide +kernel
theorem dL_costOf_14 : decode cL_costOf 14 = .ok (.ireturn, 1) := by decide +kernel
theorem dL_costOf_15 : decode cL_costOf 15 = .ok (.astore_n 3, 1) := by decide +kernel
theorem dL_costOf_16 : decode cL_costOf 16 = .ok (.iconst 2, 1) := by decide +kernel
theorem dL_costOf_17 : decode cL_costOf 17 = .ok (.ireturn, 1) := by decide +kernel
theorem dL_costOf_18 : decode cL_costOf 18 = .ok (.iconst 0, 1) := by decide +kernel
theorem dL_costOf_19 : decode cL_costOf 19 = .ok (.ireturn, 1) := by decide +kernel
theorem dL_costByCostumes_0 : decode cL_costByCostumes 0 = .ok (.aload_n 2, 1) := by decide +kernel
theorem dL_costByCostumes_1 : decode cL_costByCostumes 1 = .ok (.iconst 0, 1) := by decide +kernel
theorem dL_costByCostumes_2 : decode cL_costByCostumes 2 = .ok (.aload_n 0, 1) := by decide +kernel
theorem dL_costByCostumes_3 : decode cL_costByCostumes 3 = .ok (.iload_n 1, 1) := by decide +kernel
theorem dL_costByCostumes_4 : decode cL_costByCostumes 4 = .ok (.invokevirtual 114, 3) := by decide +kernel
theorem dL_costByCostumes_7 : decode cL_costByCostumes 7 = .ok (.i2l, 1) := by decide +kernel
theorem dL_costByCostumes_8 : decode cL_costByCostumes 8 = .ok (.lastore, 1) := by decide +kernel
theorem dL_costByCostumes_9 : decode cL_costByCostumes 9 = .ok (.goto 9, 3) := by decide +kernel
theorem dL_costByCostumes_12 : decode cL_costByCostumes 12 = .ok (.astore_n 3, 1) := by decide +kernel
theorem dL_costByCostumes_13 : decode cL_costByCostumes 13 = .ok (.iconst 1, 1) := by decide +kernel
theorem dL_costByCostumes_14 : decode cL_costByCostumes 14 = .ok (.ireturn, 1) := by decide +kernel
theorem dL_costByCostumes_15 : decode cL_costByCostumes 15 = .ok (.astore_n 3, 1) := by decide +kernel
theorem dL_costByCostumes_16 : decode cL_costByCostumes 16 = .ok (.iconst 2, 1) := by decide +kernel
theorem dL_costByCostumes_17 : decode cL_costByCostumes 17 = .ok (.ireturn, 1) := by decide +kernel
theorem dL_costByCostumes_18 : decode cL_costByCostumes 18 = .ok (.iconst 0, 1) := by decide +kernel
theorem dL_costByCostumes_19 : decode cL_costByCostumes 19 = .ok (.ireturn, 1) := by decide +kernel
theorem dL_meanPrice_0 : decode cL_meanPrice 0 = .ok (.aload_n 1, 1) := by decide +kernel
theorem dL_meanPrice_1 : decode cL_meanPrice 1 = .ok (.iconst 0, 1) := by decide +kernel
theorem dL_meanPrice_2 : decode cL_meanPrice 2 = .ok (.aload_n 0, 1) := by decide +kernel
theorem dL_meanPrice_3 : decode cL_meanPrice 3 = .ok (.invokevirtual 117, 3) := by decide +kernel
theorem dL_meanPrice_6 : decode cL_meanPrice 6 = .ok (.dastore, 1) := by decide +kernel
theorem dL_meanPrice_7 : decode cL_meanPrice 7 = .ok (.goto 6, 3) := by decide +kernel
theorem dL_meanPrice_10 : decode cL_meanPrice 10 = .ok (.astore_n 2, 1) := by decide +kernel
theorem dL_meanPrice_11 : decode cL_meanPrice 11 = .ok (.iconst 1, 1) := by decide +kernel
theorem dL_meanPrice_12 : decode cL_meanPrice 12 = .ok (.ireturn, 1) := by decide +kernel
theorem dL_meanPrice_13 : decode cL_meanPrice 13 = .ok (.iconst 0, 1) := by decide +kernel
theorem dL_meanPrice_14 : decode cL_meanPrice 14 = .ok (.ireturn, 1) := by decide +kernel
theorem dL_billAt_0 : decode cL_billAt 0 = .ok (.aload_n 2, 1) := by decide +kernel
theorem dL_billAt_1 : decode cL_billAt 1 = .ok (.iconst 0, 1) := by decide +kernel
theorem dL_billAt_2 : decode cL_billAt 2 = .ok (.aload_n 0, 1) := by decide +kernel
theorem dL_billAt_3 : decode cL_billAt 3 = .ok (.iload_n 1, 1) := by decide +kernel
theorem dL_billAt_4 : decode cL_billAt 4 = .ok (.invokevirtual 123, 3) := by decide +kernel
theorem dL_billAt_7 : decode cL_billAt 7 = .ok (.i2l, 1) := by decide +kernel
theorem dL_billAt_8 : decode cL_billAt 8 = .ok (.lastore, 1) := by decide +kernel
theorem dL_billAt_9 : decode cL_billAt 9 = .ok (.goto 6, 3) := by decide +kernel
theorem dL_billAt_12 : decode cL_billAt 12 = .ok (.astore_n 3, 1) := by decide +kernel
theorem dL_billAt_13 : decode cL_billAt 13 = .ok (.iconst 1, 1) := by decide +kernel
theorem dL_billAt_14 : decode cL_billAt 14 = .ok (.ireturn, 1) := by decide +kernel
theorem dL_billAt_15 : decode cL_billAt 15 = .ok (.iconst 0, 1) := by decide +kernel
theorem dL_billAt_16 : decode cL_billAt 16 = .ok (.ireturn, 1) := by decide +kernel
theorem dL_openAmount_0 : decode cL_openAmount 0 = .ok (.aload_n 2, 1) := by decide +kernel
theorem dL_openAmount_1 : decode cL_openAmount 1 = .ok (.iconst 0, 1) := by decide +kernel
theorem dL_openAmount_2 : decode cL_openAmount 2 = .ok (.aload_n 0, 1) := by decide +kernel
theorem dL_openAmount_3 : decode cL_openAmount 3 = .ok (.iload_n 1, 1) := by decide +kernel
theorem dL_openAmount_4 : decode cL_openAmount 4 = .ok (.invokevirtual 126, 3) := by decide +kernel
theorem dL_openAmount_7 : decode cL_openAmount 7 = .ok (.i2l, 1) := by decide +kernel
theorem dL_openAmount_8 : decode cL_openAmount 8 = .ok (.lastore, 1) := by decide +kernel
theorem dL_openAmount_9 : decode cL_openAmount 9 = .ok (.goto 6, 3) := by decide +kernel
theorem dL_openAmount_12 : decode cL_openAmount 12 = .ok (.astore_n 3, 1) := by decide +kernel
theorem dL_openAmount_13 : decode cL_openAmount 13 = .ok (.iconst 1, 1) := by decide +kernel
theorem dL_openAmount_14 : decode cL_openAmount 14 = .ok (.ireturn, 1) := by decide +kernel
theorem dL_openAmount_15 : decode cL_openAmount 15 = .ok (.iconst 0, 1) := by decide +kernel
theorem dL_openAmount_16 : decode cL_openAmount 16 = .ok (.ireturn, 1) := by decide +kernel
theorem dL_isMatched_0 : decode cL_isMatched 0 = .ok (.aload_n 2, 1) := by decide +kernel
theorem dL_isMatched_1 : decode cL_isMatched 1 = .ok (.iconst 0, 1) := by decide +kernel
theorem dL_isMatched_2 : decode cL_isMatched 2 = .ok (.aload_n 0, 1) := by decide +kernel
theorem dL_isMatched_3 : decode cL_isMatched 3 = .ok (.iload_n 1, 1) := by decide +kernel
theorem dL_isMatched_4 : decode cL_isMatched 4 = .ok (.invokevirtual 129, 3) := by decide +kernel
theorem dL_isMatched_7 : decode cL_isMatched 7 = .ok (.ifCond .eq 7, 3) := by decide +kernel
theorem dL_isMatched_10 : decode cL_isMatched 10 = .ok (.lconst 1, 1) := by decide +kernel
theorem dL_isMatched_11 : decode cL_isMatched 11 = .ok (.goto 4, 3) := by decide +kernel
theorem dL_isMatched_14 : decode cL_isMatched 14 = .ok (.lconst 0, 1) := by decide +kernel
theorem dL_isMatched_15 : decode cL_isMatched 15 = .ok (.lastore, 1) := by decide +kernel
theorem dL_isMatched_16 : decode cL_isMatched 16 = .ok (.goto 6, 3) := by decide +kernel
theorem dL_isMatched_19 : decode cL_isMatched 19 = .ok (.astore_n 3, 1) := by decide +kernel
theorem dL_isMatched_20 : decode cL_isMatched 20 = .ok (.iconst 1, 1) := by decide +kernel
theorem dL_isMatched_21 : decode cL_isMatched 21 = .ok (.ireturn, 1) := by decide +kernel
theorem dL_isMatched_22 : decode cL_isMatched 22 = .ok (.iconst 0, 1) := by decide +kernel
theorem dL_isMatched_23 : decode cL_isMatched 23 = .ok (.ireturn, 1) := by decide +kernel
theorem dL_isMatchedBySets_0 : decode cL_isMatchedBySets 0 = .ok (.aload_n 2, 1) := by decide +kernel
theorem dL_isMatchedBySets_1 : decode cL_isMatchedBySets 1 = .ok (.iconst 0, 1) := by decide +kernel
theorem dL_isMatchedBySets_2 : decode cL_isMatchedBySets 2 = .ok (.aload_n 0, 1) := by decide +kernel
theorem dL_isMatchedBySets_3 : decode cL_isMatchedBySets 3 = .ok (.iload_n 1, 1) := by decide +kernel
theorem dL_isMatchedBySets_4 : decode cL_isMatchedBySets 4 = .ok (.invokevirtual 132, 3) := by decide +kernel
theorem dL_isMatchedBySets_7 : decode cL_isMatchedBySets 7 = .ok (.ifCond .eq 7, 3) := by decide +kernel
theorem dL_isMatchedBySets_10 : decode cL_isMatchedBySets 10 = .ok (.lconst 1, 1) := by decide +kernel
theorem dL_isMatchedBySets_11 : decode cL_isMatchedBySets 11 = .ok (.goto 4, 3) := by decide +kernel
theorem dL_isMatchedBySets_14 : decode cL_isMatchedBySets 14 = .ok (.lconst 0, 1) := by decide +kernel
theorem dL_isMatchedBySets_15 : decode cL_isMatchedBySets 15 = .ok (.lastore, 1) := by decide +kernel
theorem dL_isMatchedBySets_16 : decode cL_isMatchedBySets 16 = .ok (.goto 6, 3) := by decide +kernel
theorem dL_isMatchedBySets_19 : decode cL_isMatchedBySets 19 = .ok (.astore_n 3, 1) := by decide +kernel
theorem dL_isMatchedBySets_20 : decode cL_isMatchedBySets 20 = .ok (.iconst 1, 1) := by decide +kernel
theorem dL_isMatchedBySets_21 : decode cL_isMatchedBySets 21 = .ok (.ireturn, 1) := by decide +kernel
theorem dL_isMatchedBySets_22 : decode cL_isMatchedBySets 22 = .ok (.iconst 0, 1) := by decide +kernel
theorem dL_isMatchedBySets_23 : decode cL_isMatchedBySets 23 = .ok (.ireturn, 1) := by decide +kernel
theorem dL_matchSize_0 : decode cL_matchSize 0 = .ok (.aload_n 2, 1) := by decide +kernel
theorem dL_matchSize_1 : decode cL_matchSize 1 = .ok (.iconst 0, 1) := by decide +kernel
theorem dL_matchSize_2 : decode cL_matchSize 2 = .ok (.aload_n 0, 1) := by decide +kernel
theorem dL_matchSize_3 : decode cL_matchSize 3 = .ok (.iload_n 1, 1) := by decide +kernel
theorem dL_matchSize_4 : decode cL_matchSize 4 = .ok (.invokevirtual 135, 3) := by decide +kernel
theorem dL_matchSize_7 : decode cL_matchSize 7 = .ok (.i2l, 1) := by decide +kernel
theorem dL_matchSize_8 : decode cL_matchSize 8 = .ok (.lastore, 1) := by decide +kernel
theorem dL_matchSize_9 : decode cL_matchSize 9 = .ok (.goto 9, 3) := by decide +kernel
theorem dL_matchSize_12 : decode cL_matchSize 12 = .ok (.astore_n 3, 1) := by decide +kernel
theorem dL_matchSize_13 : decode cL_matchSize 13 = .ok (.iconst 1, 1) := by decide +kernel
theorem dL_matchSize_14 : decode cL_matchSize 14 = .ok (.ireturn, 1) := by decide +kernel
theorem dL_matchSize_15 : decode cL_matchSize 15 = .ok (.astore_n 3, 1) := by decide +kernel
theorem dL_matchSize_16 : decode cL_matchSize 16 = .ok (.iconst 2, 1) := by decide +kernel
theorem dL_matchSize_17 : decode cL_matchSize 17 = .ok (.ireturn, 1) := by decide +kernel
theorem dL_matchSize_18 : decode cL_matchSize 18 = .ok (.iconst 0, 1) := by decide +kernel
theorem dL_matchSize_19 : decode cL_matchSize 19 = .ok (.ireturn, 1) := by decide +kernel
theorem dL_isInMatch_0 : decode cL_isInMatch 0 = .ok (.aload_n 3, 1) := by decide +kernel
theorem dL_isInMatch_1 : decode cL_isInMatch 1 = .ok (.iconst 0, 1) := by decide +kernel
theorem dL_isInMatch_2 : decode cL_isInMatch 2 = .ok (.aload_n 0, 1) := by decide +kernel
theorem dL_isInMatch_3 : decode cL_isInMatch 3 = .ok (.iload_n 1, 1) := by decide +kernel
theorem dL_isInMatch_4 : decode cL_isInMatch 4 = .ok (.iload_n 2, 1) := by decide +kernel
theorem dL_isInMatch_5 : decode cL_isInMatch 5 = .ok (.invokevirtual 138, 3) := by decide +kernel
theorem dL_isInMatch_8 : decode cL_isInMatch 8 = .ok (.ifCond .eq 7, 3) := by decide +kernel
theorem dL_isInMatch_11 : decode cL_isInMatch 11 = .ok (.lconst 1, 1) := by decide +kernel
theorem dL_isInMatch_12 : decode cL_isInMatch 12 = .ok (.goto 4, 3) := by decide +kernel
theorem dL_isInMatch_15 : decode cL_isInMatch 15 = .ok (.lconst 0, 1) := by decide +kernel
theorem dL_isInMatch_16 : decode cL_isInMatch 16 = .ok (.lastore, 1) := by decide +kernel
theorem dL_isInMatch_17 : decode cL_isInMatch 17 = .ok (.goto 15, 3) := by decide +kernel
theorem dL_isInMatch_20 : decode cL_isInMatch 20 = .ok (.astore 4, 2) := by decide +kernel
theorem dL_isInMatch_22 : decode cL_isInMatch 22 = .ok (.iconst 1, 1) := by decide +kernel
theorem dL_isInMatch_23 : decode cL_isInMatch 23 = .ok (.ireturn, 1) := by decide +kernel
theorem dL_isInMatch_24 : decode cL_isInMatch 24 = .ok (.astore 4, 2) := by decide +kernel
theorem dL_isInMatch_26 : decode cL_isInMatch 26 = .ok (.iconst 2, 1) := by decide +kernel
theorem dL_isInMatch_27 : decode cL_isInMatch 27 = .ok (.ireturn, 1) := by decide +kernel
theorem dL_isInMatch_28 : decode cL_isInMatch 28 = .ok (.astore 4, 2) := by decide +kernel
theorem dL_isInMatch_30 : decode cL_isInMatch 30 = .ok (.iconst 3, 1) := by decide +kernel
theorem dL_isInMatch_31 : decode cL_isInMatch 31 = .ok (.ireturn, 1) := by decide +kernel
theorem dL_isInMatch_32 : decode cL_isInMatch 32 = .ok (.iconst 0, 1) := by decide +kernel
theorem dL_isInMatch_33 : decode cL_isInMatch 33 = .ok (.ireturn, 1) := by decide +kernel
theorem dL_accountByBalance_0 : decode cL_accountByBalance 0 = .ok (.aload_n 2, 1) := by decide +kernel
theorem dL_accountByBalance_1 : decode cL_accountByBalance 1 = .ok (.iconst 0, 1) := by decide +kernel
theorem dL_accountByBalance_2 : decode cL_accountByBalance 2 = .ok (.aload_n 0, 1) := by decide +kernel
theorem dL_accountByBalance_3 : decode cL_accountByBalance 3 = .ok (.iload_n 1, 1) := by decide +kernel
theorem dL_accountByBalance_4 : decode cL_accountByBalance 4 = .ok (.invokevirtual 142, 3) := by decide +kernel
theorem dL_accountByBalance_7 : decode cL_accountByBalance 7 = .ok (.i2l, 1) := by decide +kernel
theorem dL_accountByBalance_8 : decode cL_accountByBalance 8 = .ok (.lastore, 1) := by decide +kernel
theorem dL_accountByBalance_9 : decode cL_accountByBalance 9 = .ok (.goto 6, 3) := by decide +kernel
theorem dL_accountByBalance_12 : decode cL_accountByBalance 12 = .ok (.astore_n 3, 1) := by decide +kernel
theorem dL_accountByBalance_13 : decode cL_accountByBalance 13 = .ok (.iconst 1, 1) := by decide +kernel
theorem dL_accountByBalance_14 : decode cL_accountByBalance 14 = .ok (.ireturn, 1) := by decide +kernel
theorem dL_accountByBalance_15 : decode cL_accountByBalance 15 = .ok (.iconst 0, 1) := by decide +kernel
theorem dL_accountByBalance_16 : decode cL_accountByBalance 16 = .ok (.ireturn, 1) := by decide +kernel
theorem dL_claimShare_0 : decode cL_claimShare 0 = .ok (.aload_n 1, 1) := by decide +kernel
theorem dL_claimShare_1 : decode cL_claimShare 1 = .ok (.iconst 0, 1) := by decide +kernel
theorem dL_claimShare_2 : decode cL_claimShare 2 = .ok (.aload_n 0, 1) := by decide +kernel
theorem dL_claimShare_3 : decode cL_claimShare 3 = .ok (.invokevirtual 145, 3) := by decide +kernel
theorem dL_claimShare_6 : decode cL_claimShare 6 = .ok (.f2d, 1) := by decide +kernel
theorem dL_claimShare_7 : decode cL_claimShare 7 = .ok (.dastore, 1) := by decide +kernel
theorem dL_claimShare_8 : decode cL_claimShare 8 = .ok (.goto 6, 3) := by decide +kernel
theorem dL_claimShare_11 : decode cL_claimShare 11 = .ok (.astore_n 2, 1) := by decide +kernel
theorem dL_claimShare_12 : decode cL_claimShare 12 = .ok (.iconst 1, 1) := by decide +kernel
theorem dL_claimShare_13 : decode cL_claimShare 13 = .ok (.ireturn, 1) := by decide +kernel
theorem dL_claimShare_14 : decode cL_claimShare 14 = .ok (.iconst 0, 1) := by decide +kernel
theorem dL_claimShare_15 : decode cL_claimShare 15 = .ok (.ireturn, 1) := by decide +kernel
theorem dL_feed_0 : decode cL_feed 0 = .ok (.aload_n 2, 1) := by decide +kernel
theorem dL_feed_1 : decode cL_feed 1 = .ok (.iconst 0, 1) := by decide +kernel
theorem dL_feed_2 : decode cL_feed 2 = .ok (.aload_n 0, 1) := by decide +kernel
theorem dL_feed_3 : decode cL_feed 3 = .ok (.iload_n 1, 1) := by decide +kernel
theorem dL_feed_4 : decode cL_feed 4 = .ok (.invokevirtual 149, 3) := by decide +kernel
theorem dL_feed_7 : decode cL_feed 7 = .ok (.i2l, 1) := by decide +kernel
theorem dL_feed_8 : decode cL_feed 8 = .ok (.lastore, 1) := by decide +kernel
theorem dL_feed_9 : decode cL_feed 9 = .ok (.goto 6, 3) := by decide +kernel
theorem dL_feed_12 : decode cL_feed 12 = .ok (.astore_n 3, 1) := by decide +kernel
theorem dL_feed_13 : decode cL_feed 13 = .ok (.iconst 1, 1) := by decide +kernel
theorem dL_feed_14 : decode cL_feed 14 = .ok (.ireturn, 1) := by decide +kernel
theorem dL_feed_15 : decode cL_feed 15 = .ok (.iconst 0, 1) := by decide +kernel
theorem dL_feed_16 : decode cL_feed 16 = .ok (.ireturn, 1) := by decide +kernel
theorem dL_runCommands_0 : decode cL_runCommands 0 = .ok (.aload_n 1, 1) := by decide +kernel
theorem dL_runCommands_1 : decode cL_runCommands 1 = .ok (.iconst 0, 1) := by decide +kernel
theorem dL_runCommands_2 : decode cL_runCommands 2 = .ok (.aload_n 0, 1) := by decide +kernel
theorem dL_runCommands_3 : decode cL_runCommands 3 = .ok (.invokevirtual 152, 3) := by decide +kernel
theorem dL_runCommands_6 : decode cL_runCommands 6 = .ok (.i2l, 1) := by decide +kernel
theorem dL_runCommands_7 : decode cL_runCommands 7 = .ok (.lastore, 1) := by decide +kernel
theorem dL_runCommands_8 : decode cL_runCommands 8 = .ok (.goto 9, 3) := by decide +kernel
theorem dL_runCommands_11 : decode cL_runCommands 11 = .ok (.astore_n 2, 1) := by decide +kernel
theorem dL_runCommands_12 : decode cL_runCommands 12 = .ok (.iconst 1, 1) := by decide +kernel
theorem dL_runCommands_13 : decode cL_runCommands 13 = .ok (.ireturn, 1) := by decide +kernel
theorem dL_runCommands_14 : decode cL_runCommands 14 = .ok (.astore_n 2, 1) := by decide +kernel
theorem dL_runCommands_15 : decode cL_runCommands 15 = .ok (.iconst 2, 1) := by decide +kernel
theorem dL_runCommands_16 : decode cL_runCommands 16 = .ok (.ireturn, 1) := by decide +kernel
theorem dL_runCommands_17 : decode cL_runCommands 17 = .ok (.iconst 0, 1) := by decide +kernel
theorem dL_runCommands_18 : decode cL_runCommands 18 = .ok (.ireturn, 1) := by decide +kernel
theorem dL_errorPosition_0 : decode cL_errorPosition 0 = .ok (.aload_n 1, 1) := by decide +kernel
theorem dL_errorPosition_1 : decode cL_errorPosition 1 = .ok (.iconst 0, 1) := by decide +kernel
theorem dL_errorPosition_2 : decode cL_errorPosition 2 = .ok (.aload_n 0, 1) := by decide +kernel
theorem dL_errorPosition_3 : decode cL_errorPosition 3 = .ok (.invokevirtual 156, 3) := by decide +kernel
theorem dL_errorPosition_6 : decode cL_errorPosition 6 = .ok (.i2l, 1) := by decide +kernel
theorem dL_errorPosition_7 : decode cL_errorPosition 7 = .ok (.lastore, 1) := by decide +kernel
theorem dL_errorPosition_8 : decode cL_errorPosition 8 = .ok (.goto 6, 3) := by decide +kernel
theorem dL_errorPosition_11 : decode cL_errorPosition 11 = .ok (.astore_n 2, 1) := by decide +kernel
theorem dL_errorPosition_12 : decode cL_errorPosition 12 = .ok (.iconst 1, 1) := by decide +kernel
theorem dL_errorPosition_13 : decode cL_errorPosition 13 = .ok (.ireturn, 1) := by decide +kernel
theorem dL_errorPosition_14 : decode cL_errorPosition 14 = .ok (.iconst 0, 1) := by decide +kernel
theorem dL_errorPosition_15 : decode cL_errorPosition 15 = .ok (.ireturn, 1) := by decide +kernel
theorem dL_failedCommand_0 : decode cL_failedCommand 0 = .ok (.aload_n 1, 1) := by decide +kernel
theorem dL_failedCommand_1 : decode cL_failedCommand 1 = .ok (.iconst 0, 1) := by decide +kernel
theorem dL_failedCommand_2 : decode cL_failedCommand 2 = .ok (.aload_n 0, 1) := by decide +kernel
theorem dL_failedCommand_3 : decode cL_failedCommand 3 = .ok (.invokevirtual 159, 3) := by decide +kernel
theorem dL_failedCommand_6 : decode cL_failedCommand 6 = .ok (.i2l, 1) := by decide +kernel
theorem dL_failedCommand_7 : decode cL_failedCommand 7 = .ok (.lastore, 1) := by decide +kernel
theorem dL_failedCommand_8 : decode cL_failedCommand 8 = .ok (.goto 6, 3) := by decide +kernel
theorem dL_failedCommand_11 : decode cL_failedCommand 11 = .ok (.astore_n 2, 1) := by decide +kernel
theorem dL_failedCommand_12 : decode cL_failedCommand 12 = .ok (.iconst 1, 1) := by decide +kernel
theorem dL_failedCommand_13 : decode cL_failedCommand 13 = .ok (.ireturn, 1) := by decide +kernel
theorem dL_failedCommand_14 : decode cL_failedCommand 14 = .ok (.iconst 0, 1) := by decide +kernel
theorem dL_failedCommand_15 : decode cL_failedCommand 15 = .ok (.ireturn, 1) := by decide +kernel
theorem dL_writeEntry_0 : decode cL_writeEntry 0 = .ok (.aload_n 2, 1) := by decide +kernel
theorem dL_writeEntry_1 : decode cL_writeEntry 1 = .ok (.iconst 0, 1) := by decide +kernel
theorem dL_writeEntry_2 : decode cL_writeEntry 2 = .ok (.aload_n 0, 1) := by decide +kernel
theorem dL_writeEntry_3 : decode cL_writeEntry 3 = .ok (.iload_n 1, 1) := by decide +kernel
theorem dL_writeEntry_4 : decode cL_writeEntry 4 = .ok (.invokevirtual 162, 3) := by decide +kernel
theorem dL_writeEntry_7 : decode cL_writeEntry 7 = .ok (.i2l, 1) := by decide +kernel
theorem dL_writeEntry_8 : decode cL_writeEntry 8 = .ok (.lastore, 1) := by decide +kernel
theorem dL_writeEntry_9 : decode cL_writeEntry 9 = .ok (.goto 6, 3) := by decide +kernel
theorem dL_writeEntry_12 : decode cL_writeEntry 12 = .ok (.astore_n 3, 1) := by decide +kernel
theorem dL_writeEntry_13 : decode cL_writeEntry 13 = .ok (.iconst 1, 1) := by decide +kernel
theorem dL_writeEntry_14 : decode cL_writeEntry 14 = .ok (.ireturn, 1) := by decide +kernel
theorem dL_writeEntry_15 : decode cL_writeEntry 15 = .ok (.iconst 0, 1) := by decide +kernel
theorem dL_writeEntry_16 : decode cL_writeEntry 16 = .ok (.ireturn, 1) := by decide +kernel
theorem dL_outputChar_0 : decode cL_outputChar 0 = .ok (.aload_n 2, 1) := by decide +kernel
theorem dL_outputChar_1 : decode cL_outputChar 1 = .ok (.iconst 0, 1) := by decide +kernel
theorem dL_outputChar_2 : decode cL_outputChar 2 = .ok (.aload_n 0, 1) := by decide +kernel
theorem dL_outputChar_3 : decode cL_outputChar 3 = .ok (.iload_n 1, 1) := by decide +kernel
theorem dL_outputChar_4 : decode cL_outputChar 4 = .ok (.invokevirtual 165, 3) := by decide +kernel
theorem dL_outputChar_7 : decode cL_outputChar 7 = .ok (.i2l, 1) := by decide +kernel
theorem dL_outputChar_8 : decode cL_outputChar 8 = .ok (.lastore, 1) := by decide +kernel
theorem dL_outputChar_9 : decode cL_outputChar 9 = .ok (.goto 6, 3) := by decide +kernel
theorem dL_outputChar_12 : decode cL_outputChar 12 = .ok (.astore_n 3, 1) := by decide +kernel
theorem dL_outputChar_13 : decode cL_outputChar 13 = .ok (.iconst 1, 1) := by decide +kernel
theorem dL_outputChar_14 : decode cL_outputChar 14 = .ok (.ireturn, 1) := by decide +kernel
theorem dL_outputChar_15 : decode cL_outputChar 15 = .ok (.iconst 0, 1) := by decide +kernel
theorem dL_outputChar_16 : decode cL_outputChar 16 = .ok (.ireturn, 1) := by decide +kernel
theorem dL_undo_0 : decode cL_undo 0 = .ok (.aload_n 1, 1) := by decide +kernel
theorem dL_undo_1 : decode cL_undo 1 = .ok (.iconst 0, 1) := by decide +kernel
theorem dL_undo_2 : decode cL_undo 2 = .ok (.aload_n 0, 1) := by decide +kernel
theorem dL_undo_3 : decode cL_undo 3 = .ok (.invokevirtual 168, 3) := by decide +kernel
theorem dL_undo_6 : decode cL_undo 6 = .ok (.i2l, 1) := by decide +kernel
theorem dL_undo_7 : decode cL_undo 7 = .ok (.lastore, 1) := by decide +kernel
theorem dL_undo_8 : decode cL_undo 8 = .ok (.goto 6, 3) := by decide +kernel
theorem dL_undo_11 : decode cL_undo 11 = .ok (.astore_n 2, 1) := by decide +kernel
theorem dL_undo_12 : decode cL_undo 12 = .ok (.iconst 1, 1) := by decide +kernel
theorem dL_undo_13 : decode cL_undo 13 = .ok (.ireturn, 1) := by decide +kernel
theorem dL_undo_14 : decode cL_undo 14 = .ok (.iconst 0, 1) := by decide +kernel
theorem dL_undo_15 : decode cL_undo 15 = .ok (.ireturn, 1) := by decide +kernel
theorem dL_restore_0 : decode cL_restore 0 = .ok (.aload_n 1, 1) := by decide +kernel
theorem dL_restore_1 : decode cL_restore 1 = .ok (.iconst 0, 1) := by decide +kernel
theorem dL_restore_2 : decode cL_restore 2 = .ok (.aload_n 0, 1) := by decide +kernel
theorem dL_restore_3 : decode cL_restore 3 = .ok (.invokevirtual 171, 3) := by decide +kernel
theorem dL_restore_6 : decode cL_restore 6 = .ok (.i2l, 1) := by decide +kernel
theorem dL_restore_7 : decode cL_restore 7 = .ok (.lastore, 1) := by decide +kernel
theorem dL_restore_8 : decode cL_restore 8 = .ok (.goto 6, 3) := by decide +kernel
theorem dL_restore_11 : decode cL_restore 11 = .ok (.astore_n 2, 1) := by decide +kernel
theorem dL_restore_12 : decode cL_restore 12 = .ok (.iconst 1, 1) := by decide +kernel
theorem dL_restore_13 : decode cL_restore 13 = .ok (.ireturn, 1) := by decide +kernel
theorem dL_restore_14 : decode cL_restore 14 = .ok (.iconst 0, 1) := by decide +kernel
theorem dL_restore_15 : decode cL_restore 15 = .ok (.ireturn, 1) := by decide +kernel
