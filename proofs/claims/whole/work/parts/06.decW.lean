theorem d_W_person_0 : decode c_W_person 0 = .ok (.aload_n 3, 1) := by decide +kernel
theorem d_W_person_1 : decode c_W_person 1 = .ok (.iconst 0, 1) := by decide +kernel
theorem d_W_person_2 : decode c_W_person 2 = .ok (.aload_n 0, 1) := by decide +kernel
theorem d_W_person_3 : decode c_W_person 3 = .ok (.iload_n 1, 1) := by decide +kernel
theorem d_W_person_4 : decode c_W_person 4 = .ok (.iload_n 2, 1) := by decide +kernel
theorem d_W_person_5 : decode c_W_person 5 = .ok (.invokevirtual 7, 3) := by decide +kernel
theorem d_W_person_8 : decode c_W_person 8 = .ok (.i2l, 1) := by decide +kernel
theorem d_W_person_9 : decode c_W_person 9 = .ok (.lastore, 1) := by decide +kernel
theorem d_W_person_10 : decode c_W_person 10 = .ok (.goto 11, 3) := by decide +kernel
theorem d_W_person_13 : decode c_W_person 13 = .ok (.astore 4, 2) := by decide +kernel
theorem d_W_person_15 : decode c_W_person 15 = .ok (.iconst 1, 1) := by decide +kernel
theorem d_W_person_16 : decode c_W_person 16 = .ok (.ireturn, 1) := by decide +kernel
theorem d_W_person_17 : decode c_W_person 17 = .ok (.astore 4, 2) := by decide +kernel
theorem d_W_person_19 : decode c_W_person 19 = .ok (.iconst 2, 1) := by decide +kernel
theorem d_W_person_20 : decode c_W_person 20 = .ok (.ireturn, 1) := by decide +kernel
theorem d_W_person_21 : decode c_W_person 21 = .ok (.iconst 0, 1) := by decide +kernel
theorem d_W_person_22 : decode c_W_person 22 = .ok (.ireturn, 1) := by decide +kernel
theorem d_W_amend_0 : decode c_W_amend 0 = .ok (.aload_n 0, 1) := by decide +kernel
theorem d_W_amend_1 : decode c_W_amend 1 = .ok (.iload_n 1, 1) := by decide +kernel
theorem d_W_amend_2 : decode c_W_amend 2 = .ok (.iload_n 2, 1) := by decide +kernel
theorem d_W_amend_3 : decode c_W_amend 3 = .ok (.iload_n 3, 1) := by decide +kernel
theorem d_W_amend_4 : decode c_W_amend 4 = .ok (.invokevirtual 17, 3) := by decide +kernel
theorem d_W_amend_7 : decode c_W_amend 7 = .ok (.goto 7, 3) := by decide +kernel
theorem d_W_amend_10 : decode c_W_amend 10 = .ok (.astore 4, 2) := by decide +kernel
theorem d_W_amend_12 : decode c_W_amend 12 = .ok (.iconst 1, 1) := by decide +kernel
theorem d_W_amend_13 : decode c_W_amend 13 = .ok (.ireturn, 1) := by decide +kernel
theorem d_W_amend_14 : decode c_W_amend 14 = .ok (.iconst 0, 1) := by decide +kernel
theorem d_W_amend_15 : decode c_W_amend 15 = .ok (.ireturn, 1) := by decide +kernel
theorem d_W_marry_0 : decode c_W_marry 0 = .ok (.aload_n 0, 1) := by decide +kernel
theorem d_W_marry_1 : decode c_W_marry 1 = .ok (.iload_n 1, 1) := by decide +kernel
theorem d_W_marry_2 : decode c_W_marry 2 = .ok (.iload_n 2, 1) := by decide +kernel
theorem d_W_marry_3 : decode c_W_marry 3 = .ok (.invokevirtual 21, 3) := by decide +kernel
theorem d_W_marry_6 : decode c_W_marry 6 = .ok (.goto 9, 3) := by decide +kernel
theorem d_W_marry_9 : decode c_W_marry 9 = .ok (.astore_n 3, 1) := by decide +kernel
theorem d_W_marry_10 : decode c_W_marry 10 = .ok (.iconst 1, 1) := by decide +kernel
theorem d_W_marry_11 : decode c_W_marry 11 = .ok (.ireturn, 1) := by decide +kernel
theorem d_W_marry_12 : decode c_W_marry 12 = .ok (.astore_n 3, 1) := by decide +kernel
theorem d_W_marry_13 : decode c_W_marry 13 = .ok (.iconst 2, 1) := by decide +kernel
theorem d_W_marry_14 : decode c_W_marry 14 = .ok (.ireturn, 1) := by decide +kernel
theorem d_W_marry_15 : decode c_W_marry 15 = .ok (.iconst 0, 1) := by decide +kernel
theorem d_W_marry_16 : decode c_W_marry 16 = .ok (.ireturn, 1) := by decide +kernel
theorem d_W_divorce_0 : decode c_W_divorce 0 = .ok (.aload_n 2, 1) := by decide +kernel
theorem d_W_divorce_1 : decode c_W_divorce 1 = .ok (.iconst 0, 1) := by decide +kernel
theorem d_W_divorce_2 : decode c_W_divorce 2 = .ok (.aload_n 0, 1) := by decide +kernel
theorem d_W_divorce_3 : decode c_W_divorce 3 = .ok (.iload_n 1, 1) := by decide +kernel
theorem d_W_divorce_4 : decode c_W_divorce 4 = .ok (.invokevirtual 25, 3) := by decide +kernel
theorem d_W_divorce_7 : decode c_W_divorce 7 = .ok (.ifCond .eq 7, 3) := by decide +kernel
theorem d_W_divorce_10 : decode c_W_divorce 10 = .ok (.lconst 1, 1) := by decide +kernel
theorem d_W_divorce_11 : decode c_W_divorce 11 = .ok (.goto 4, 3) := by decide +kernel
theorem d_W_divorce_14 : decode c_W_divorce 14 = .ok (.lconst 0, 1) := by decide +kernel
theorem d_W_divorce_15 : decode c_W_divorce 15 = .ok (.lastore, 1) := by decide +kernel
theorem d_W_divorce_16 : decode c_W_divorce 16 = .ok (.goto 6, 3) := by decide +kernel
theorem d_W_divorce_19 : decode c_W_divorce 19 = .ok (.astore_n 3, 1) := by decide +kernel
theorem d_W_divorce_20 : decode c_W_divorce 20 = .ok (.iconst 1, 1) := by decide +kernel
theorem d_W_divorce_21 : decode c_W_divorce 21 = .ok (.ireturn, 1) := by decide +kernel
theorem d_W_divorce_22 : decode c_W_divorce 22 = .ok (.iconst 0, 1) := by decide +kernel
theorem d_W_divorce_23 : decode c_W_divorce 23 = .ok (.ireturn, 1) := by decide +kernel
theorem d_W_spouse_0 : decode c_W_spouse 0 = .ok (.aload_n 2, 1) := by decide +kernel
theorem d_W_spouse_1 : decode c_W_spouse 1 = .ok (.iconst 0, 1) := by decide +kernel
theorem d_W_spouse_2 : decode c_W_spouse 2 = .ok (.aload_n 0, 1) := by decide +kernel
theorem d_W_spouse_3 : decode c_W_spouse 3 = .ok (.iload_n 1, 1) := by decide +kernel
theorem d_W_spouse_4 : decode c_W_spouse 4 = .ok (.invokevirtual 29, 3) := by decide +kernel
theorem d_W_spouse_7 : decode c_W_spouse 7 = .ok (.i2l, 1) := by decide +kernel
theorem d_W_spouse_8 : decode c_W_spouse 8 = .ok (.lastore, 1) := by decide +kernel
theorem d_W_spouse_9 : decode c_W_spouse 9 = .ok (.goto 6, 3) := by decide +kernel
theorem d_W_spouse_12 : decode c_W_spouse 12 = .ok (.astore_n 3, 1) := by decide +kernel
theorem d_W_spouse_13 : decode c_W_spouse 13 = .ok (.iconst 1, 1) := by decide +kernel
theorem d_W_spouse_14 : decode c_W_spouse 14 = .ok (.ireturn, 1) := by decide +kernel
theorem d_W_spouse_15 : decode c_W_spouse 15 = .ok (.iconst 0, 1) := by decide +kernel
theorem d_W_spouse_16 : decode c_W_spouse 16 = .ok (.ireturn, 1) := by decide +kernel
theorem d_W_dies_0 : decode c_W_dies 0 = .ok (.aload_n 0, 1) := by decide +kernel
theorem d_W_dies_1 : decode c_W_dies 1 = .ok (.iload_n 1, 1) := by decide +kernel
theorem d_W_dies_2 : decode c_W_dies 2 = .ok (.iload_n 2, 1) := by decide +kernel
theorem d_W_dies_3 : decode c_W_dies 3 = .ok (.invokevirtual 33, 3) := by decide +kernel
theorem d_W_dies_6 : decode c_W_dies 6 = .ok (.goto 9, 3) := by decide +kernel
theorem d_W_dies_9 : decode c_W_dies 9 = .ok (.astore_n 3, 1) := by decide +kernel
theorem d_W_dies_10 : decode c_W_dies 10 = .ok (.iconst 1, 1) := by decide +kernel
theorem d_W_dies_11 : decode c_W_dies 11 = .ok (.ireturn, 1) := by decide +kernel
theorem d_W_dies_12 : decode c_W_dies 12 = .ok (.astore_n 3, 1) := by decide +kernel
theorem d_W_dies_13 : decode c_W_dies 13 = .ok (.iconst 2, 1) := by decide +kernel
theorem d_W_dies_14 : decode c_W_dies 14 = .ok (.ireturn, 1) := by decide +kernel
theorem d_W_dies_15 : decode c_W_dies 15 = .ok (.iconst 0, 1) := by decide +kernel
theorem d_W_dies_16 : decode c_W_dies 16 = .ok (.ireturn, 1) := by decide +kernel
theorem d_W_exclude_0 : decode c_W_exclude 0 = .ok (.aload 4, 2) := by decide +kernel
theorem d_W_exclude_2 : decode c_W_exclude 2 = .ok (.iconst 0, 1) := by decide +kernel
theorem d_W_exclude_3 : decode c_W_exclude 3 = .ok (.aload_n 0, 1) := by decide +kernel
theorem d_W_exclude_4 : decode c_W_exclude 4 = .ok (.iload_n 1, 1) := by decide +kernel
theorem d_W_exclude_5 : decode c_W_exclude 5 = .ok (.iload_n 2, 1) := by decide +kernel
theorem d_W_exclude_6 : decode c_W_exclude 6 = .ok (.iload_n 3, 1) := by decide +kernel
theorem d_W_exclude_7 : decode c_W_exclude 7 = .ok (.invokevirtual 36, 3) := by decide +kernel
theorem d_W_exclude_10 : decode c_W_exclude 10 = .ok (.ifCond .eq 7, 3) := by decide +kernel
theorem d_W_exclude_13 : decode c_W_exclude 13 = .ok (.lconst 1, 1) := by decide +kernel
theorem d_W_exclude_14 : decode c_W_exclude 14 = .ok (.goto 4, 3) := by decide +kernel
theorem d_W_exclude_17 : decode c_W_exclude 17 = .ok (.lconst 0, 1) := by decide +kernel
theorem d_W_exclude_18 : decode c_W_exclude 18 = .ok (.lastore, 1) := by decide +kernel
theorem d_W_exclude_19 : decode c_W_exclude 19 = .ok (.goto 7, 3) := by decide +kernel
theorem d_W_exclude_22 : decode c_W_exclude 22 = .ok (.astore 5, 2) := by decide +kernel
theorem d_W_exclude_24 : decode c_W_exclude 24 = .ok (.iconst 1, 1) := by decide +kernel
theorem d_W_exclude_25 : decode c_W_exclude 25 = .ok (.ireturn, 1) := by decide +kernel
theorem d_W_exclude_26 : decode c_W_exclude 26 = .ok (.iconst 0, 1) := by decide +kernel
theorem d_W_exclude_27 : decode c_W_exclude 27 = .ok (.ireturn, 1) := by decide +kernel
theorem d_W_gift_0 : decode c_W_gift 0 = .ok (.aload 4, 2) := by decide +kernel
theorem d_W_gift_2 : decode c_W_gift 2 = .ok (.iconst 0, 1) := by decide +kernel
theorem d_W_gift_3 : decode c_W_gift 3 = .ok (.aload_n 0, 1) := by decide +kernel
theorem d_W_gift_4 : decode c_W_gift 4 = .ok (.iload_n 1, 1) := by decide +kernel
theorem d_W_gift_5 : decode c_W_gift 5 = .ok (.iload_n 2, 1) := by decide +kernel
theorem d_W_gift_6 : decode c_W_gift 6 = .ok (.iload_n 3, 1) := by decide +kernel
theorem d_W_gift_7 : decode c_W_gift 7 = .ok (.invokevirtual 40, 3) := by decide +kernel
theorem d_W_gift_10 : decode c_W_gift 10 = .ok (.i2l, 1) := by decide +kernel
theorem d_W_gift_11 : decode c_W_gift 11 = .ok (.lastore, 1) := by decide +kernel
theorem d_W_gift_12 : decode c_W_gift 12 = .ok (.goto 11, 3) := by decide +kernel
theorem d_W_gift_15 : decode c_W_gift 15 = .ok (.astore 5, 2) := by decide +kernel
theorem d_W_gift_17 : decode c_W_gift 17 = .ok (.iconst 1, 1) := by decide +kernel
theorem d_W_gift_18 : decode c_W_gift 18 = .ok (.ireturn, 1) := by decide +kernel
theorem d_W_gift_19 : decode c_W_gift 19 = .ok (.astore 5, 2) := by decide +kernel
theorem d_W_gift_21 : decode c_W_gift 21 = .ok (.iconst 2, 1) := by decide +kernel
theorem d_W_gift_22 : decode c_W_gift 22 = .ok (.ireturn, 1) := by decide +kernel
theorem d_W_gift_23 : decode c_W_gift 23 = .ok (.iconst 0, 1) := by decide +kernel
theorem d_W_gift_24 : decode c_W_gift 24 = .ok (.ireturn, 1) := by decide +kernel
theorem d_W_estate_0 : decode c_W_estate 0 = .ok (.aload_n 0, 1) := by decide +kernel
theorem d_W_estate_1 : decode c_W_estate 1 = .ok (.iload_n 1, 1) := by decide +kernel
theorem d_W_estate_2 : decode c_W_estate 2 = .ok (.iload_n 2, 1) := by decide +kernel
theorem d_W_estate_3 : decode c_W_estate 3 = .ok (.invokevirtual 44, 3) := by decide +kernel
theorem d_W_estate_6 : decode c_W_estate 6 = .ok (.goto 6, 3) := by decide +kernel
theorem d_W_estate_9 : decode c_W_estate 9 = .ok (.astore_n 3, 1) := by decide +kernel
theorem d_W_estate_10 : decode c_W_estate 10 = .ok (.iconst 1, 1) := by decide +kernel
theorem d_W_estate_11 : decode c_W_estate 11 = .ok (.ireturn, 1) := by decide +kernel
theorem d_W_estate_12 : decode c_W_estate 12 = .ok (.iconst 0, 1) := by decide +kernel
theorem d_W_estate_13 : decode c_W_estate 13 = .ok (.ireturn, 1) := by decide +kernel
theorem d_W_heirs_0 : decode c_W_heirs 0 = .ok (.aload_n 2, 1) := by decide +kernel
theorem d_W_heirs_1 : decode c_W_heirs 1 = .ok (.iconst 0, 1) := by decide +kernel
theorem d_W_heirs_2 : decode c_W_heirs 2 = .ok (.aload_n 0, 1) := by decide +kernel
theorem d_W_heirs_3 : decode c_W_heirs 3 = .ok (.iload_n 1, 1) := by decide +kernel
theorem d_W_heirs_4 : decode c_W_heirs 4 = .ok (.invokevirtual 47, 3) := by decide +kernel
theorem d_W_heirs_7 : decode c_W_heirs 7 = .ok (.i2l, 1) := by decide +kernel
theorem d_W_heirs_8 : decode c_W_heirs 8 = .ok (.lastore, 1) := by decide +kernel
theorem d_W_heirs_9 : decode c_W_heirs 9 = .ok (.goto 9, 3) := by decide +kernel
theorem d_W_heirs_12 : decode c_W_heirs 12 = .ok (.astore_n 3, 1) := by decide +kernel
theorem d_W_heirs_13 : decode c_W_heirs 13 = .ok (.iconst 1, 1) := by decide +kernel
theorem d_W_heirs_14 : decode c_W_heirs 14 = .ok (.ireturn, 1) := by decide +kernel
theorem d_W_heirs_15 : decode c_W_heirs 15 = .ok (.astore_n 3, 1) := by decide +kernel
theorem d_W_heirs_16 : decode c_W_heirs 16 = .ok (.iconst 2, 1) := by decide +kernel
theorem d_W_heirs_17 : decode c_W_heirs 17 = .ok (.ireturn, 1) := by decide +kernel
theorem d_W_heirs_18 : decode c_W_heirs 18 = .ok (.iconst 0, 1) := by decide +kernel
theorem d_W_heirs_19 : decode c_W_heirs 19 = .ok (.ireturn, 1) := by decide +kernel
theorem d_W_heir_0 : decode c_W_heir 0 = .ok (.aload_n 3, 1) := by decide +kernel
theorem d_W_heir_1 : decode c_W_heir 1 = .ok (.iconst 0, 1) := by decide +kernel
theorem d_W_heir_2 : decode c_W_heir 2 = .ok (.aload_n 0, 1) := by decide +kernel
theorem d_W_heir_3 : decode c_W_heir 3 = .ok (.iload_n 1, 1) := by decide +kernel
theorem d_W_heir_4 : decode c_W_heir 4 = .ok (.iload_n 2, 1) := by decide +kernel
theorem d_W_heir_5 : decode c_W_heir 5 = .ok (.invokevirtual 50, 3) := by decide +kernel
theorem d_W_heir_8 : decode c_W_heir 8 = .ok (.i2l, 1) := by decide +kernel
theorem d_W_heir_9 : decode c_W_heir 9 = .ok (.lastore, 1) := by decide +kernel
theorem d_W_heir_10 : decode c_W_heir 10 = .ok (.goto 11, 3) := by decide +kernel
theorem d_W_heir_13 : decode c_W_heir 13 = .ok (.astore 4, 2) := by decide +kernel
theorem d_W_heir_15 : decode c_W_heir 15 = .ok (.iconst 1, 1) := by decide +kernel
theorem d_W_heir_16 : decode c_W_heir 16 = .ok (.ireturn, 1) := by decide +kernel
theorem d_W_heir_17 : decode c_W_heir 17 = .ok (.astore 4, 2) := by decide +kernel
theorem d_W_heir_19 : decode c_W_heir 19 = .ok (.iconst 2, 1) := by decide +kernel
theorem d_W_heir_20 : decode c_W_heir 20 = .ok (.ireturn, 1) := by decide +kernel
theorem d_W_heir_21 : decode c_W_heir 21 = .ok (.iconst 0, 1) := by decide +kernel
theorem d_W_heir_22 : decode c_W_heir 22 = .ok (.ireturn, 1) := by decide +kernel
theorem d_W_share_0 : decode c_W_share 0 = .ok (.aload_n 3, 1) := by decide +kernel
theorem d_W_share_1 : decode c_W_share 1 = .ok (.iconst 0, 1) := by decide +kernel
theorem d_W_share_2 : decode c_W_share 2 = .ok (.aload_n 0, 1) := by decide +kernel
theorem d_W_share_3 : decode c_W_share 3 = .ok (.iload_n 1, 1) := by decide +kernel
theorem d_W_share_4 : decode c_W_share 4 = .ok (.iload_n 2, 1) := by decide +kernel
theorem d_W_share_5 : decode c_W_share 5 = .ok (.invokevirtual 53, 3) := by decide +kernel
theorem d_W_share_8 : decode c_W_share 8 = .ok (.lastore, 1) := by decide +kernel
theorem d_W_share_9 : decode c_W_share 9 = .ok (.goto 11, 3) := by decide +kernel
theorem d_W_share_12 : decode c_W_share 12 = .ok (.astore 4, 2) := by decide +kernel
theorem d_W_share_14 : decode c_W_share 14 = .ok (.iconst 1, 1) := by decide +kernel
theorem d_W_share_15 : decode c_W_share 15 = .ok (.ireturn, 1) := by decide +kernel
theorem d_W_share_16 : decode c_W_share 16 = .ok (.astore 4, 2) := by decide +kernel
theorem d_W_share_18 : decode c_W_share 18 = .ok (.iconst 2, 1) := by decide +kernel
theorem d_W_share_19 : decode c_W_share 19 = .ok (.ireturn, 1) := by decide +kernel
theorem d_W_share_20 : decode c_W_share 20 = .ok (.iconst 0, 1) := by decide +kernel
theorem d_W_share_21 : decode c_W_share 21 = .ok (.ireturn, 1) := by decide +kernel
theorem d_W_order_0 : decode c_W_order 0 = .ok (.aload_n 2, 1) := by decide +kernel
theorem d_W_order_1 : decode c_W_order 1 = .ok (.iconst 0, 1) := by decide +kernel
theorem d_W_order_2 : decode c_W_order 2 = .ok (.aload_n 0, 1) := by decide +kernel
theorem d_W_order_3 : decode c_W_order 3 = .ok (.iload_n 1, 1) := by decide +kernel
theorem d_W_order_4 : decode c_W_order 4 = .ok (.invokevirtual 57, 3) := by decide +kernel
theorem d_W_order_7 : decode c_W_order 7 = .ok (.i2l, 1) := by decide +kernel
theorem d_W_order_8 : decode c_W_order 8 = .ok (.lastore, 1) := by decide +kernel
theorem d_W_order_9 : decode c_W_order 9 = .ok (.goto 9, 3) := by decide +kernel
theorem d_W_order_12 : decode c_W_order 12 = .ok (.astore_n 3, 1) := by decide +kernel
theorem d_W_order_13 : decode c_W_order 13 = .ok (.iconst 1, 1) := by decide +kernel
theorem d_W_order_14 : decode c_W_order 14 = .ok (.ireturn, 1) := by decide +kernel
theorem d_W_order_15 : decode c_W_order 15 = .ok (.astore_n 3, 1) := by decide +kernel
theorem d_W_order_16 : decode c_W_order 16 = .ok (.iconst 2, 1) := by decide +kernel
theorem d_W_order_17 : decode c_W_order 17 = .ok (.ireturn, 1) := by decide +kernel
theorem d_W_order_18 : decode c_W_order 18 = .ok (.iconst 0, 1) := by decide +kernel
theorem d_W_order_19 : decode c_W_order 19 = .ok (.ireturn, 1) := by decide +kernel
theorem d_W_stem_0 : decode c_W_stem 0 = .ok (.aload_n 3, 1) := by decide +kernel
theorem d_W_stem_1 : decode c_W_stem 1 = .ok (.iconst 0, 1) := by decide +kernel
theorem d_W_stem_2 : decode c_W_stem 2 = .ok (.aload_n 0, 1) := by decide +kernel
theorem d_W_stem_3 : decode c_W_stem 3 = .ok (.iload_n 1, 1) := by decide +kernel
theorem d_W_stem_4 : decode c_W_stem 4 = .ok (.iload_n 2, 1) := by decide +kernel
theorem d_W_stem_5 : decode c_W_stem 5 = .ok (.invokevirtual 60, 3) := by decide +kernel
theorem d_W_stem_8 : decode c_W_stem 8 = .ok (.i2l, 1) := by decide +kernel
theorem d_W_stem_9 : decode c_W_stem 9 = .ok (.lastore, 1) := by decide +kernel
theorem d_W_stem_10 : decode c_W_stem 10 = .ok (.goto 11, 3) := by decide +kernel
theorem d_W_stem_13 : decode c_W_stem 13 = .ok (.astore 4, 2) := by decide +kernel
theorem d_W_stem_15 : decode c_W_stem 15 = .ok (.iconst 1, 1) := by decide +kernel
theorem d_W_stem_16 : decode c_W_stem 16 = .ok (.ireturn, 1) := by decide +kernel
theorem d_W_stem_17 : decode c_W_stem 17 = .ok (.astore 4, 2) := by decide +kernel
theorem d_W_stem_19 : decode c_W_stem 19 = .ok (.iconst 2, 1) := by decide +kernel
theorem d_W_stem_20 : decode c_W_stem 20 = .ok (.ireturn, 1) := by decide +kernel
theorem d_W_stem_21 : decode c_W_stem 21 = .ok (.iconst 0, 1) := by decide +kernel
theorem d_W_stem_22 : decode c_W_stem 22 = .ok (.ireturn, 1) := by decide +kernel
theorem d_W_paid_0 : decode c_W_paid 0 = .ok (.aload_n 3, 1) := by decide +kernel
theorem d_W_paid_1 : decode c_W_paid 1 = .ok (.iconst 0, 1) := by decide +kernel
theorem d_W_paid_2 : decode c_W_paid 2 = .ok (.aload_n 0, 1) := by decide +kernel
theorem d_W_paid_3 : decode c_W_paid 3 = .ok (.iload_n 1, 1) := by decide +kernel
theorem d_W_paid_4 : decode c_W_paid 4 = .ok (.iload_n 2, 1) := by decide +kernel
theorem d_W_paid_5 : decode c_W_paid 5 = .ok (.invokevirtual 63, 3) := by decide +kernel
theorem d_W_paid_8 : decode c_W_paid 8 = .ok (.lastore, 1) := by decide +kernel
theorem d_W_paid_9 : decode c_W_paid 9 = .ok (.goto 7, 3) := by decide +kernel
theorem d_W_paid_12 : decode c_W_paid 12 = .ok (.astore 4, 2) := by decide +kernel
theorem d_W_paid_14 : decode c_W_paid 14 = .ok (.iconst 1, 1) := by decide +kernel
theorem d_W_paid_15 : decode c_W_paid 15 = .ok (.ireturn, 1) := by decide +kernel
theorem d_W_paid_16 : decode c_W_paid 16 = .ok (.iconst 0, 1) := by decide +kernel
theorem d_W_paid_17 : decode c_W_paid 17 = .ok (.ireturn, 1) := by decide +kernel
theorem d_W_total_0 : decode c_W_total 0 = .ok (.aload_n 2, 1) := by decide +kernel
theorem d_W_total_1 : decode c_W_total 1 = .ok (.iconst 0, 1) := by decide +kernel
theorem d_W_total_2 : decode c_W_total 2 = .ok (.aload_n 0, 1) := by decide +kernel
theorem d_W_total_3 : decode c_W_total 3 = .ok (.iload_n 1, 1) := by decide +kernel
theorem d_W_total_4 : decode c_W_total 4 = .ok (.invokevirtual 66, 3) := by decide +kernel
theorem d_W_total_7 : decode c_W_total 7 = .ok (.lastore, 1) := by decide +kernel
theorem d_W_total_8 : decode c_W_total 8 = .ok (.goto 6, 3) := by decide +kernel
theorem d_W_total_11 : decode c_W_total 11 = .ok (.astore_n 3, 1) := by decide +kernel
theorem d_W_total_12 : decode c_W_total 12 = .ok (.iconst 1, 1) := by decide +kernel
theorem d_W_total_13 : decode c_W_total 13 = .ok (.ireturn, 1) := by decide +kernel
theorem d_W_total_14 : decode c_W_total 14 = .ok (.iconst 0, 1) := by decide +kernel
theorem d_W_total_15 : decode c_W_total 15 = .ok (.ireturn, 1) := by decide +kernel
theorem d_W_got_0 : decode c_W_got 0 = .ok (.aload_n 2, 1) := by decide +kernel
theorem d_W_got_1 : decode c_W_got 1 = .ok (.iconst 0, 1) := by decide +kernel
theorem d_W_got_2 : decode c_W_got 2 = .ok (.aload_n 0, 1) := by decide +kernel
theorem d_W_got_3 : decode c_W_got 3 = .ok (.iload_n 1, 1) := by decide +kernel
theorem d_W_got_4 : decode c_W_got 4 = .ok (.invokevirtual 70, 3) := by decide +kernel
theorem d_W_got_7 : decode c_W_got 7 = .ok (.lastore, 1) := by decide +kernel
theorem d_W_got_8 : decode c_W_got 8 = .ok (.goto 6, 3) := by decide +kernel
theorem d_W_got_11 : decode c_W_got 11 = .ok (.astore_n 3, 1) := by decide +kernel
theorem d_W_got_12 : decode c_W_got 12 = .ok (.iconst 1, 1) := by decide +kernel
theorem d_W_got_13 : decode c_W_got 13 = .ok (.ireturn, 1) := by decide +kernel
theorem d_W_got_14 : decode c_W_got 14 = .ok (.iconst 0, 1) := by decide +kernel
theorem d_W_got_15 : decode c_W_got 15 = .ok (.ireturn, 1) := by decide +kernel
theorem d_W_law_0 : decode code 0 = .ok (.new 8, 3) := by decide +kernel
theorem d_W_law_3 : decode code 3 = .ok (.dup, 1) := by decide +kernel
theorem d_W_law_4 : decode code 4 = .ok (.invokespecial 73, 3) := by decide +kernel
theorem d_W_law_7 : decode code 7 = .ok (.astore_n 1, 1) := by decide +kernel
theorem d_W_law_8 : decode code 8 = .ok (.new 74, 3) := by decide +kernel
theorem d_W_law_11 : decode code 11 = .ok (.dup, 1) := by decide +kernel
theorem d_W_law_12 : decode code 12 = .ok (.invokespecial 76, 3) := by decide +kernel
theorem d_W_law_15 : decode code 15 = .ok (.astore_n 2, 1) := by decide +kernel
theorem d_W_law_16 : decode code 16 = .ok (.iconst 1, 1) := by decide +kernel
theorem d_W_law_17 : decode code 17 = .ok (.newarray .long, 2) := by decide +kernel
theorem d_W_law_19 : decode code 19 = .ok (.astore_n 3, 1) := by decide +kernel
theorem d_W_law_20 : decode code 20 = .ok (.iconst 0, 1) := by decide +kernel
theorem d_W_law_21 : decode code 21 = .ok (.istore 4, 2) := by decide +kernel
theorem d_W_law_23 : decode code 23 = .ok (.iload 4, 2) := by decide +kernel
theorem d_W_law_25 : decode code 25 = .ok (.aload_n 0, 1) := by decide +kernel
theorem d_W_law_26 : decode code 26 = .ok (.arraylength, 1) := by decide +kernel
theorem d_W_law_27 : decode code 27 = .ok (.iconst 4, 1) := by decide +kernel
theorem d_W_law_28 : decode code 28 = .ok (.isub, 1) := by decide +kernel
theorem d_W_law_29 : decode code 29 = .ok (.if_icmp .gt 1180, 3) := by decide +kernel
theorem d_W_law_32 : decode code 32 = .ok (.aload_n 0, 1) := by decide +kernel
theorem d_W_law_33 : decode code 33 = .ok (.iload 4, 2) := by decide +kernel
theorem d_W_law_35 : decode code 35 = .ok (.iaload, 1) := by decide +kernel
theorem d_W_law_36 : decode code 36 = .ok (.bipush 31, 2) := by decide +kernel
theorem d_W_law_38 : decode code 38 = .ok (.iand, 1) := by decide +kernel
theorem d_W_law_39 : decode code 39 = .ok (.tableswitch 1164 0 17 #[85, 153, 213, 261, 324, 380, 428, 531, 611, 659, 715, 783, 850, 906, 974, 987, 1054, 1109], 85) := by decide +kernel
theorem d_W_law_124 : decode code 124 = .ok (.aload_n 1, 1) := by decide +kernel
theorem d_W_law_125 : decode code 125 = .ok (.aload_n 0, 1) := by decide +kernel
theorem d_W_law_126 : decode code 126 = .ok (.iload 4, 2) := by decide +kernel
theorem d_W_law_128 : decode code 128 = .ok (.iconst 1, 1) := by decide +kernel
theorem d_W_law_129 : decode code 129 = .ok (.iadd, 1) := by decide +kernel
theorem d_W_law_130 : decode code 130 = .ok (.iaload, 1) := by decide +kernel
theorem d_W_law_131 : decode code 131 = .ok (.aload_n 0, 1) := by decide +kernel
theorem d_W_law_132 : decode code 132 = .ok (.iload 4, 2) := by decide +kernel
theorem d_W_law_134 : decode code 134 = .ok (.iconst 2, 1) := by decide +kernel
theorem d_W_law_135 : decode code 135 = .ok (.iadd, 1) := by decide +kernel
theorem d_W_law_136 : decode code 136 = .ok (.iaload, 1) := by decide +kernel
theorem d_W_law_137 : decode code 137 = .ok (.aload_n 3, 1) := by decide +kernel
theorem d_W_law_138 : decode code 138 = .ok (.invokestatic 77, 3) := by decide +kernel
theorem d_W_law_141 : decode code 141 = .ok (.istore 5, 2) := by decide +kernel
theorem d_W_law_143 : decode code 143 = .ok (.aload_n 2, 1) := by decide +kernel
theorem d_W_law_144 : decode code 144 = .ok (.aload_n 0, 1) := by decide +kernel
theorem d_W_law_145 : decode code 145 = .ok (.iload 4, 2) := by decide +kernel
theorem d_W_law_147 : decode code 147 = .ok (.iconst 1, 1) := by decide +kernel
theorem d_W_law_148 : decode code 148 = .ok (.iadd, 1) := by decide +kernel
theorem d_W_law_149 : decode code 149 = .ok (.iaload, 1) := by decide +kernel
theorem d_W_law_150 : decode code 150 = .ok (.aload_n 0, 1) := by decide +kernel
theorem d_W_law_151 : decode code 151 = .ok (.iload 4, 2) := by decide +kernel
theorem d_W_law_153 : decode code 153 = .ok (.iconst 2, 1) := by decide +kernel
theorem d_W_law_154 : decode code 154 = .ok (.iadd, 1) := by decide +kernel
theorem d_W_law_155 : decode code 155 = .ok (.iaload, 1) := by decide +kernel
theorem d_W_law_156 : decode code 156 = .ok (.invokevirtual 82, 3) := by decide +kernel
theorem d_W_law_159 : decode code 159 = .ok (.istore 6, 2) := by decide +kernel
theorem d_W_law_161 : decode code 161 = .ok (.aload_n 2, 1) := by decide +kernel
theorem d_W_law_162 : decode code 162 = .ok (.invokevirtual 83, 3) := by decide +kernel
theorem d_W_law_165 : decode code 165 = .ok (.iload 5, 2) := by decide +kernel
theorem d_W_law_167 : decode code 167 = .ok (.if_icmp .eq 5, 3) := by decide +kernel
theorem d_W_law_170 : decode code 170 = .ok (.iconst 0, 1) := by decide +kernel
theorem d_W_law_171 : decode code 171 = .ok (.ireturn, 1) := by decide +kernel
theorem d_W_law_172 : decode code 172 = .ok (.iload 5, 2) := by decide +kernel
theorem d_W_law_174 : decode code 174 = .ok (.ifCond .ne 15, 3) := by decide +kernel
theorem d_W_law_177 : decode code 177 = .ok (.aload_n 3, 1) := by decide +kernel
theorem d_W_law_178 : decode code 178 = .ok (.iconst 0, 1) := by decide +kernel
theorem d_W_law_179 : decode code 179 = .ok (.laload, 1) := by decide +kernel
theorem d_W_law_180 : decode code 180 = .ok (.iload 6, 2) := by decide +kernel
theorem d_W_law_182 : decode code 182 = .ok (.i2l, 1) := by decide +kernel
theorem d_W_law_183 : decode code 183 = .ok (.lcmp, 1) := by decide +kernel
theorem d_W_law_184 : decode code 184 = .ok (.ifCond .eq 5, 3) := by decide +kernel
theorem d_W_law_187 : decode code 187 = .ok (.iconst 0, 1) := by decide +kernel
theorem d_W_law_188 : decode code 188 = .ok (.ireturn, 1) := by decide +kernel
theorem d_W_law_189 : decode code 189 = .ok (.goto 1014, 3) := by decide +kernel
theorem d_W_law_192 : decode code 192 = .ok (.aload_n 1, 1) := by decide +kernel
theorem d_W_law_193 : decode code 193 = .ok (.aload_n 0, 1) := by decide +kernel
theorem d_W_law_194 : decode code 194 = .ok (.iload 4, 2) := by decide +kernel
theorem d_W_law_196 : decode code 196 = .ok (.iconst 1, 1) := by decide +kernel
theorem d_W_law_197 : decode code 197 = .ok (.iadd, 1) := by decide +kernel
theorem d_W_law_198 : decode code 198 = .ok (.iaload, 1) := by decide +kernel
theorem d_W_law_199 : decode code 199 = .ok (.aload_n 0, 1) := by decide +kernel
theorem d_W_law_200 : decode code 200 = .ok (.iload 4, 2) := by decide +kernel
theorem d_W_law_202 : decode code 202 = .ok (.iconst 2, 1) := by decide +kernel
theorem d_W_law_203 : decode code 203 = .ok (.iadd, 1) := by decide +kernel
theorem d_W_law_204 : decode code 204 = .ok (.iaload, 1) := by decide +kernel
theorem d_W_law_205 : decode code 205 = .ok (.aload_n 0, 1) := by decide +kernel
theorem d_W_law_206 : decode code 206 = .ok (.iload 4, 2) := by decide +kernel
theorem d_W_law_208 : decode code 208 = .ok (.iconst 3, 1) := by decide +kernel
theorem d_W_law_209 : decode code 209 = .ok (.iadd, 1) := by decide +kernel
theorem d_W_law_210 : decode code 210 = .ok (.iaload, 1) := by decide +kernel
theorem d_W_law_211 : decode code 211 = .ok (.invokestatic 87, 3) := by decide +kernel
theorem d_W_law_214 : decode code 214 = .ok (.istore 5, 2) := by decide +kernel
theorem d_W_law_216 : decode code 216 = .ok (.aload_n 2, 1) := by decide +kernel
theorem d_W_law_217 : decode code 217 = .ok (.aload_n 0, 1) := by decide +kernel
theorem d_W_law_218 : decode code 218 = .ok (.iload 4, 2) := by decide +kernel
theorem d_W_law_220 : decode code 220 = .ok (.iconst 1, 1) := by decide +kernel
theorem d_W_law_221 : decode code 221 = .ok (.iadd, 1) := by decide +kernel
theorem d_W_law_222 : decode code 222 = .ok (.iaload, 1) := by decide +kernel
theorem d_W_law_223 : decode code 223 = .ok (.aload_n 0, 1) := by decide +kernel
theorem d_W_law_224 : decode code 224 = .ok (.iload 4, 2) := by decide +kernel
theorem d_W_law_226 : decode code 226 = .ok (.iconst 2, 1) := by decide +kernel
theorem d_W_law_227 : decode code 227 = .ok (.iadd, 1) := by decide +kernel
theorem d_W_law_228 : decode code 228 = .ok (.iaload, 1) := by decide +kernel
theorem d_W_law_229 : decode code 229 = .ok (.aload_n 0, 1) := by decide +kernel
theorem d_W_law_230 : decode code 230 = .ok (.iload 4, 2) := by decide +kernel
theorem d_W_law_232 : decode code 232 = .ok (.iconst 3, 1) := by decide +kernel
theorem d_W_law_233 : decode code 233 = .ok (.iadd, 1) := by decide +kernel
theorem d_W_law_234 : decode code 234 = .ok (.iaload, 1) := by decide +kernel
theorem d_W_law_235 : decode code 235 = .ok (.invokevirtual 90, 3) := by decide +kernel
theorem d_W_law_238 : decode code 238 = .ok (.aload_n 2, 1) := by decide +kernel
theorem d_W_law_239 : decode code 239 = .ok (.invokevirtual 83, 3) := by decide +kernel
theorem d_W_law_242 : decode code 242 = .ok (.iload 5, 2) := by decide +kernel
theorem d_W_law_244 : decode code 244 = .ok (.if_icmp .eq 5, 3) := by decide +kernel
theorem d_W_law_247 : decode code 247 = .ok (.iconst 0, 1) := by decide +kernel
theorem d_W_law_248 : decode code 248 = .ok (.ireturn, 1) := by decide +kernel
theorem d_W_law_249 : decode code 249 = .ok (.goto 954, 3) := by decide +kernel
theorem d_W_law_252 : decode code 252 = .ok (.aload_n 1, 1) := by decide +kernel
theorem d_W_law_253 : decode code 253 = .ok (.aload_n 0, 1) := by decide +kernel
theorem d_W_law_254 : decode code 254 = .ok (.iload 4, 2) := by decide +kernel
theorem d_W_law_256 : decode code 256 = .ok (.iconst 1, 1) := by decide +kernel
theorem d_W_law_257 : decode code 257 = .ok (.iadd, 1) := by decide +kernel
theorem d_W_law_258 : decode code 258 = .ok (.iaload, 1) := by decide +kernel
theorem d_W_law_259 : decode code 259 = .ok (.aload_n 0, 1) := by decide +kernel
theorem d_W_law_260 : decode code 260 = .ok (.iload 4, 2) := by decide +kernel
theorem d_W_law_262 : decode code 262 = .ok (.iconst 2, 1) := by decide +kernel
theorem d_W_law_263 : decode code 263 = .ok (.iadd, 1) := by decide +kernel
theorem d_W_law_264 : decode code 264 = .ok (.iaload, 1) := by decide +kernel
theorem d_W_law_265 : decode code 265 = .ok (.invokestatic 91, 3) := by decide +kernel
theorem d_W_law_268 : decode code 268 = .ok (.istore 5, 2) := by decide +kernel
theorem d_W_law_270 : decode code 270 = .ok (.aload_n 2, 1) := by decide +kernel
theorem d_W_law_271 : decode code 271 = .ok (.aload_n 0, 1) := by decide +kernel
theorem d_W_law_272 : decode code 272 = .ok (.iload 4, 2) := by decide +kernel
theorem d_W_law_274 : decode code 274 = .ok (.iconst 1, 1) := by decide +kernel
theorem d_W_law_275 : decode code 275 = .ok (.iadd, 1) := by decide +kernel
theorem d_W_law_276 : decode code 276 = .ok (.iaload, 1) := by decide +kernel
theorem d_W_law_277 : decode code 277 = .ok (.aload_n 0, 1) := by decide +kernel
theorem d_W_law_278 : decode code 278 = .ok (.iload 4, 2) := by decide +kernel
theorem d_W_law_280 : decode code 280 = .ok (.iconst 2, 1) := by decide +kernel
theorem d_W_law_281 : decode code 281 = .ok (.iadd, 1) := by decide +kernel
theorem d_W_law_282 : decode code 282 = .ok (.iaload, 1) := by decide +kernel
theorem d_W_law_283 : decode code 283 = .ok (.invokevirtual 94, 3) := by decide +kernel
theorem d_W_law_286 : decode code 286 = .ok (.aload_n 2, 1) := by decide +kernel
theorem d_W_law_287 : decode code 287 = .ok (.invokevirtual 83, 3) := by decide +kernel
theorem d_W_law_290 : decode code 290 = .ok (.iload 5, 2) := by decide +kernel
theorem d_W_law_292 : decode code 292 = .ok (.if_icmp .eq 5, 3) := by decide +kernel
theorem d_W_law_295 : decode code 295 = .ok (.iconst 0, 1) := by decide +kernel
theorem d_W_law_296 : decode code 296 = .ok (.ireturn, 1) := by decide +kernel
theorem d_W_law_297 : decode code 297 = .ok (.goto 906, 3) := by decide +kernel
theorem d_W_law_300 : decode code 300 = .ok (.aload_n 1, 1) := by decide +kernel
theorem d_W_law_301 : decode code 301 = .ok (.aload_n 0, 1) := by decide +kernel
theorem d_W_law_302 : decode code 302 = .ok (.iload 4, 2) := by decide +kernel
theorem d_W_law_304 : decode code 304 = .ok (.iconst 1, 1) := by decide +kernel
theorem d_W_law_305 : decode code 305 = .ok (.iadd, 1) := by decide +kernel
theorem d_W_law_306 : decode code 306 = .ok (.iaload, 1) := by decide +kernel
theorem d_W_law_307 : decode code 307 = .ok (.aload_n 3, 1) := by decide +kernel
theorem d_W_law_308 : decode code 308 = .ok (.invokestatic 95, 3) := by decide +kernel
theorem d_W_law_311 : decode code 311 = .ok (.istore 5, 2) := by decide +kernel
theorem d_W_law_313 : decode code 313 = .ok (.aload_n 2, 1) := by decide +kernel
theorem d_W_law_314 : decode code 314 = .ok (.aload_n 0, 1) := by decide +kernel
theorem d_W_law_315 : decode code 315 = .ok (.iload 4, 2) := by decide +kernel
theorem d_W_law_317 : decode code 317 = .ok (.iconst 1, 1) := by decide +kernel
theorem d_W_law_318 : decode code 318 = .ok (.iadd, 1) := by decide +kernel
theorem d_W_law_319 : decode code 319 = .ok (.iaload, 1) := by decide +kernel
theorem d_W_law_320 : decode code 320 = .ok (.invokevirtual 98, 3) := by decide +kernel
theorem d_W_law_323 : decode code 323 = .ok (.istore 6, 2) := by decide +kernel
theorem d_W_law_325 : decode code 325 = .ok (.aload_n 2, 1) := by decide +kernel
theorem d_W_law_326 : decode code 326 = .ok (.invokevirtual 83, 3) := by decide +kernel
theorem d_W_law_329 : decode code 329 = .ok (.iload 5, 2) := by decide +kernel
theorem d_W_law_331 : decode code 331 = .ok (.if_icmp .eq 5, 3) := by decide +kernel
theorem d_W_law_334 : decode code 334 = .ok (.iconst 0, 1) := by decide +kernel
theorem d_W_law_335 : decode code 335 = .ok (.ireturn, 1) := by decide +kernel
theorem d_W_law_336 : decode code 336 = .ok (.iload 5, 2) := by decide +kernel
theorem d_W_law_338 : decode code 338 = .ok (.ifCond .ne 22, 3) := by decide +kernel
theorem d_W_law_341 : decode code 341 = .ok (.aload_n 3, 1) := by decide +kernel
theorem d_W_law_342 : decode code 342 = .ok (.iconst 0, 1) := by decide +kernel
theorem d_W_law_343 : decode code 343 = .ok (.laload, 1) := by decide +kernel
theorem d_W_law_344 : decode code 344 = .ok (.iload 6, 2) := by decide +kernel
theorem d_W_law_346 : decode code 346 = .ok (.ifCond .eq 7, 3) := by decide +kernel
theorem d_W_law_349 : decode code 349 = .ok (.lconst 1, 1) := by decide +kernel
theorem d_W_law_350 : decode code 350 = .ok (.goto 4, 3) := by decide +kernel
theorem d_W_law_353 : decode code 353 = .ok (.lconst 0, 1) := by decide +kernel
theorem d_W_law_354 : decode code 354 = .ok (.lcmp, 1) := by decide +kernel
theorem d_W_law_355 : decode code 355 = .ok (.ifCond .eq 5, 3) := by decide +kernel
theorem d_W_law_358 : decode code 358 = .ok (.iconst 0, 1) := by decide +kernel
theorem d_W_law_359 : decode code 359 = .ok (.ireturn, 1) := by decide +kernel
theorem d_W_law_360 : decode code 360 = .ok (.goto 843, 3) := by decide +kernel
theorem d_W_law_363 : decode code 363 = .ok (.aload_n 1, 1) := by decide +kernel
theorem d_W_law_364 : decode code 364 = .ok (.aload_n 0, 1) := by decide +kernel
theorem d_W_law_365 : decode code 365 = .ok (.iload 4, 2) := by decide +kernel
theorem d_W_law_367 : decode code 367 = .ok (.iconst 1, 1) := by decide +kernel
theorem d_W_law_368 : decode code 368 = .ok (.iadd, 1) := by decide +kernel
theorem d_W_law_369 : decode code 369 = .ok (.iaload, 1) := by decide +kernel
theorem d_W_law_370 : decode code 370 = .ok (.aload_n 3, 1) := by decide +kernel
theorem d_W_law_371 : decode code 371 = .ok (.invokestatic 99, 3) := by decide +kernel
theorem d_W_law_374 : decode code 374 = .ok (.istore 5, 2) := by decide +kernel
theorem d_W_law_376 : decode code 376 = .ok (.aload_n 2, 1) := by decide +kernel
theorem d_W_law_377 : decode code 377 = .ok (.aload_n 0, 1) := by decide +kernel
theorem d_W_law_378 : decode code 378 = .ok (.iload 4, 2) := by decide +kernel
theorem d_W_law_380 : decode code 380 = .ok (.iconst 1, 1) := by decide +kernel
theorem d_W_law_381 : decode code 381 = .ok (.iadd, 1) := by decide +kernel
theorem d_W_law_382 : decode code 382 = .ok (.iaload, 1) := by decide +kernel
theorem d_W_law_383 : decode code 383 = .ok (.invokevirtual 101, 3) := by decide +kernel
theorem d_W_law_386 : decode code 386 = .ok (.istore 6, 2) := by decide +kernel
theorem d_W_law_388 : decode code 388 = .ok (.aload_n 2, 1) := by decide +kernel
theorem d_W_law_389 : decode code 389 = .ok (.invokevirtual 83, 3) := by decide +kernel
theorem d_W_law_392 : decode code 392 = .ok (.iload 5, 2) := by decide +kernel
theorem d_W_law_394 : decode code 394 = .ok (.if_icmp .eq 5, 3) := by decide +kernel
theorem d_W_law_397 : decode code 397 = .ok (.iconst 0, 1) := by decide +kernel
theorem d_W_law_398 : decode code 398 = .ok (.ireturn, 1) := by decide +kernel
theorem d_W_law_399 : decode code 399 = .ok (.iload 5, 2) := by decide +kernel
theorem d_W_law_401 : decode code 401 = .ok (.ifCond .ne 15, 3) := by decide +kernel
theorem d_W_law_404 : decode code 404 = .ok (.aload_n 3, 1) := by decide +kernel
theorem d_W_law_405 : decode code 405 = .ok (.iconst 0, 1) := by decide +kernel
theorem d_W_law_406 : decode code 406 = .ok (.laload, 1) := by decide +kernel
theorem d_W_law_407 : decode code 407 = .ok (.iload 6, 2) := by decide +kernel
theorem d_W_law_409 : decode code 409 = .ok (.i2l, 1) := by decide +kernel
theorem d_W_law_410 : decode code 410 = .ok (.lcmp, 1) := by decide +kernel
theorem d_W_law_411 : decode code 411 = .ok (.ifCond .eq 5, 3) := by decide +kernel
theorem d_W_law_414 : decode code 414 = .ok (.iconst 0, 1) := by decide +kernel
theorem d_W_law_415 : decode code 415 = .ok (.ireturn, 1) := by decide +kernel
theorem d_W_law_416 : decode code 416 = .ok (.goto 787, 3) := by decide +kernel
theorem d_W_law_419 : decode code 419 = .ok (.aload_n 1, 1) := by decide +kernel
theorem d_W_law_420 : decode code 420 = .ok (.aload_n 0, 1) := by decide +kernel
theorem d_W_law_421 : decode code 421 = .ok (.iload 4, 2) := by decide +kernel
theorem d_W_law_423 : decode code 423 = .ok (.iconst 1, 1) := by decide +kernel
theorem d_W_law_424 : decode code 424 = .ok (.iadd, 1) := by decide +kernel
theorem d_W_law_425 : decode code 425 = .ok (.iaload, 1) := by decide +kernel
theorem d_W_law_426 : decode code 426 = .ok (.aload_n 0, 1) := by decide +kernel
theorem d_W_law_427 : decode code 427 = .ok (.iload 4, 2) := by decide +kernel
theorem d_W_law_429 : decode code 429 = .ok (.iconst 2, 1) := by decide +kernel
theorem d_W_law_430 : decode code 430 = .ok (.iadd, 1) := by decide +kernel
theorem d_W_law_431 : decode code 431 = .ok (.iaload, 1) := by decide +kernel
theorem d_W_law_432 : decode code 432 = .ok (.invokestatic 102, 3) := by decide +kernel
theorem d_W_law_435 : decode code 435 = .ok (.istore 5, 2) := by decide +kernel
theorem d_W_law_437 : decode code 437 = .ok (.aload_n 2, 1) := by decide +kernel
theorem d_W_law_438 : decode code 438 = .ok (.aload_n 0, 1) := by decide +kernel
theorem d_W_law_439 : decode code 439 = .ok (.iload 4, 2) := by decide +kernel
theorem d_W_law_441 : decode code 441 = .ok (.iconst 1, 1) := by decide +kernel
theorem d_W_law_442 : decode code 442 = .ok (.iadd, 1) := by decide +kernel
theorem d_W_law_443 : decode code 443 = .ok (.iaload, 1) := by decide +kernel
theorem d_W_law_444 : decode code 444 = .ok (.aload_n 0, 1) := by decide +kernel
theorem d_W_law_445 : decode code 445 = .ok (.iload 4, 2) := by decide +kernel
theorem d_W_law_447 : decode code 447 = .ok (.iconst 2, 1) := by decide +kernel
theorem d_W_law_448 : decode code 448 = .ok (.iadd, 1) := by decide +kernel
theorem d_W_law_449 : decode code 449 = .ok (.iaload, 1) := by decide +kernel
theorem d_W_law_450 : decode code 450 = .ok (.invokevirtual 104, 3) := by decide +kernel
theorem d_W_law_453 : decode code 453 = .ok (.aload_n 2, 1) := by decide +kernel
theorem d_W_law_454 : decode code 454 = .ok (.invokevirtual 83, 3) := by decide +kernel
theorem d_W_law_457 : decode code 457 = .ok (.iload 5, 2) := by decide +kernel
theorem d_W_law_459 : decode code 459 = .ok (.if_icmp .eq 5, 3) := by decide +kernel
theorem d_W_law_462 : decode code 462 = .ok (.iconst 0, 1) := by decide +kernel
theorem d_W_law_463 : decode code 463 = .ok (.ireturn, 1) := by decide +kernel
theorem d_W_law_464 : decode code 464 = .ok (.goto 739, 3) := by decide +kernel
theorem d_W_law_467 : decode code 467 = .ok (.aload_n 1, 1) := by decide +kernel
theorem d_W_law_468 : decode code 468 = .ok (.aload_n 0, 1) := by decide +kernel
theorem d_W_law_469 : decode code 469 = .ok (.iload 4, 2) := by decide +kernel
theorem d_W_law_471 : decode code 471 = .ok (.iconst 1, 1) := by decide +kernel
theorem d_W_law_472 : decode code 472 = .ok (.iadd, 1) := by decide +kernel
theorem d_W_law_473 : decode code 473 = .ok (.iaload, 1) := by decide +kernel
theorem d_W_law_474 : decode code 474 = .ok (.aload_n 0, 1) := by decide +kernel
theorem d_W_law_475 : decode code 475 = .ok (.iload 4, 2) := by decide +kernel
theorem d_W_law_477 : decode code 477 = .ok (.iconst 2, 1) := by decide +kernel
theorem d_W_law_478 : decode code 478 = .ok (.iadd, 1) := by decide +kernel
theorem d_W_law_479 : decode code 479 = .ok (.iaload, 1) := by decide +kernel
theorem d_W_law_480 : decode code 480 = .ok (.aload_n 0, 1) := by decide +kernel
theorem d_W_law_481 : decode code 481 = .ok (.iload 4, 2) := by decide +kernel
theorem d_W_law_483 : decode code 483 = .ok (.iconst 3, 1) := by decide +kernel
theorem d_W_law_484 : decode code 484 = .ok (.iadd, 1) := by decide +kernel
theorem d_W_law_485 : decode code 485 = .ok (.iaload, 1) := by decide +kernel
theorem d_W_law_486 : decode code 486 = .ok (.ifCond .eq 7, 3) := by decide +kernel
theorem d_W_law_489 : decode code 489 = .ok (.iconst 1, 1) := by decide +kernel
theorem d_W_law_490 : decode code 490 = .ok (.goto 4, 3) := by decide +kernel
theorem d_W_law_493 : decode code 493 = .ok (.iconst 0, 1) := by decide +kernel
theorem d_W_law_494 : decode code 494 = .ok (.aload_n 3, 1) := by decide +kernel
theorem d_W_law_495 : decode code 495 = .ok (.invokestatic 105, 3) := by decide +kernel
theorem d_W_law_498 : decode code 498 = .ok (.istore 5, 2) := by decide +kernel
theorem d_W_law_500 : decode code 500 = .ok (.aload_n 2, 1) := by decide +kernel
theorem d_W_law_501 : decode code 501 = .ok (.aload_n 0, 1) := by decide +kernel
theorem d_W_law_502 : decode code 502 = .ok (.iload 4, 2) := by decide +kernel
theorem d_W_law_504 : decode code 504 = .ok (.iconst 1, 1) := by decide +kernel
theorem d_W_law_505 : decode code 505 = .ok (.iadd, 1) := by decide +kernel
theorem d_W_law_506 : decode code 506 = .ok (.iaload, 1) := by decide +kernel
theorem d_W_law_507 : decode code 507 = .ok (.aload_n 0, 1) := by decide +kernel
theorem d_W_law_508 : decode code 508 = .ok (.iload 4, 2) := by decide +kernel
theorem d_W_law_510 : decode code 510 = .ok (.iconst 2, 1) := by decide +kernel
theorem d_W_law_511 : decode code 511 = .ok (.iadd, 1) := by decide +kernel
theorem d_W_law_512 : decode code 512 = .ok (.iaload, 1) := by decide +kernel
theorem d_W_law_513 : decode code 513 = .ok (.aload_n 0, 1) := by decide +kernel
theorem d_W_law_514 : decode code 514 = .ok (.iload 4, 2) := by decide +kernel
theorem d_W_law_516 : decode code 516 = .ok (.iconst 3, 1) := by decide +kernel
theorem d_W_law_517 : decode code 517 = .ok (.iadd, 1) := by decide +kernel
theorem d_W_law_518 : decode code 518 = .ok (.iaload, 1) := by decide +kernel
theorem d_W_law_519 : decode code 519 = .ok (.ifCond .eq 7, 3) := by decide +kernel
theorem d_W_law_522 : decode code 522 = .ok (.iconst 1, 1) := by decide +kernel
theorem d_W_law_523 : decode code 523 = .ok (.goto 4, 3) := by decide +kernel
theorem d_W_law_526 : decode code 526 = .ok (.iconst 0, 1) := by decide +kernel
theorem d_W_law_527 : decode code 527 = .ok (.invokevirtual 108, 3) := by decide +kernel
theorem d_W_law_530 : decode code 530 = .ok (.istore 6, 2) := by decide +kernel
theorem d_W_law_532 : decode code 532 = .ok (.aload_n 2, 1) := by decide +kernel
theorem d_W_law_533 : decode code 533 = .ok (.invokevirtual 83, 3) := by decide +kernel
theorem d_W_law_536 : decode code 536 = .ok (.iload 5, 2) := by decide +kernel
theorem d_W_law_538 : decode code 538 = .ok (.if_icmp .eq 5, 3) := by decide +kernel
theorem d_W_law_541 : decode code 541 = .ok (.iconst 0, 1) := by decide +kernel
theorem d_W_law_542 : decode code 542 = .ok (.ireturn, 1) := by decide +kernel
theorem d_W_law_543 : decode code 543 = .ok (.iload 5, 2) := by decide +kernel
theorem d_W_law_545 : decode code 545 = .ok (.ifCond .ne 22, 3) := by decide +kernel
theorem d_W_law_548 : decode code 548 = .ok (.aload_n 3, 1) := by decide +kernel
theorem d_W_law_549 : decode code 549 = .ok (.iconst 0, 1) := by decide +kernel
theorem d_W_law_550 : decode code 550 = .ok (.laload, 1) := by decide +kernel
theorem d_W_law_551 : decode code 551 = .ok (.iload 6, 2) := by decide +kernel
theorem d_W_law_553 : decode code 553 = .ok (.ifCond .eq 7, 3) := by decide +kernel
theorem d_W_law_556 : decode code 556 = .ok (.lconst 1, 1) := by decide +kernel
theorem d_W_law_557 : decode code 557 = .ok (.goto 4, 3) := by decide +kernel
theorem d_W_law_560 : decode code 560 = .ok (.lconst 0, 1) := by decide +kernel
theorem d_W_law_561 : decode code 561 = .ok (.lcmp, 1) := by decide +kernel
theorem d_W_law_562 : decode code 562 = .ok (.ifCond .eq 5, 3) := by decide +kernel
theorem d_W_law_565 : decode code 565 = .ok (.iconst 0, 1) := by decide +kernel
theorem d_W_law_566 : decode code 566 = .ok (.ireturn, 1) := by decide +kernel
theorem d_W_law_567 : decode code 567 = .ok (.goto 636, 3) := by decide +kernel
theorem d_W_law_570 : decode code 570 = .ok (.aload_n 1, 1) := by decide +kernel
theorem d_W_law_571 : decode code 571 = .ok (.aload_n 0, 1) := by decide +kernel
theorem d_W_law_572 : decode code 572 = .ok (.iload 4, 2) := by decide +kernel
theorem d_W_law_574 : decode code 574 = .ok (.iconst 1, 1) := by decide +kernel
theorem d_W_law_575 : decode code 575 = .ok (.iadd, 1) := by decide +kernel
theorem d_W_law_576 : decode code 576 = .ok (.iaload, 1) := by decide +kernel
theorem d_W_law_577 : decode code 577 = .ok (.aload_n 0, 1) := by decide +kernel
theorem d_W_law_578 : decode code 578 = .ok (.iload 4, 2) := by decide +kernel
theorem d_W_law_580 : decode code 580 = .ok (.iconst 2, 1) := by decide +kernel
theorem d_W_law_581 : decode code 581 = .ok (.iadd, 1) := by decide +kernel
theorem d_W_law_582 : decode code 582 = .ok (.iaload, 1) := by decide +kernel
theorem d_W_law_583 : decode code 583 = .ok (.aload_n 0, 1) := by decide +kernel
theorem d_W_law_584 : decode code 584 = .ok (.iload 4, 2) := by decide +kernel
theorem d_W_law_586 : decode code 586 = .ok (.iconst 3, 1) := by decide +kernel
theorem d_W_law_587 : decode code 587 = .ok (.iadd, 1) := by decide +kernel
theorem d_W_law_588 : decode code 588 = .ok (.iaload, 1) := by decide +kernel
theorem d_W_law_589 : decode code 589 = .ok (.aload_n 3, 1) := by decide +kernel
theorem d_W_law_590 : decode code 590 = .ok (.invokestatic 109, 3) := by decide +kernel
theorem d_W_law_593 : decode code 593 = .ok (.istore 5, 2) := by decide +kernel
theorem d_W_law_595 : decode code 595 = .ok (.aload_n 2, 1) := by decide +kernel
theorem d_W_law_596 : decode code 596 = .ok (.aload_n 0, 1) := by decide +kernel
theorem d_W_law_597 : decode code 597 = .ok (.iload 4, 2) := by decide +kernel
theorem d_W_law_599 : decode code 599 = .ok (.iconst 1, 1) := by decide +kernel
theorem d_W_law_600 : decode code 600 = .ok (.iadd, 1) := by decide +kernel
theorem d_W_law_601 : decode code 601 = .ok (.iaload, 1) := by decide +kernel
theorem d_W_law_602 : decode code 602 = .ok (.aload_n 0, 1) := by decide +kernel
theorem d_W_law_603 : decode code 603 = .ok (.iload 4, 2) := by decide +kernel
theorem d_W_law_605 : decode code 605 = .ok (.iconst 2, 1) := by decide +kernel
theorem d_W_law_606 : decode code 606 = .ok (.iadd, 1) := by decide +kernel
theorem d_W_law_607 : decode code 607 = .ok (.iaload, 1) := by decide +kernel
theorem d_W_law_608 : decode code 608 = .ok (.aload_n 0, 1) := by decide +kernel
theorem d_W_law_609 : decode code 609 = .ok (.iload 4, 2) := by decide +kernel
theorem d_W_law_611 : decode code 611 = .ok (.iconst 3, 1) := by decide +kernel
theorem d_W_law_612 : decode code 612 = .ok (.iadd, 1) := by decide +kernel
theorem d_W_law_613 : decode code 613 = .ok (.iaload, 1) := by decide +kernel
theorem d_W_law_614 : decode code 614 = .ok (.invokevirtual 112, 3) := by decide +kernel
theorem d_W_law_617 : decode code 617 = .ok (.istore 6, 2) := by decide +kernel
theorem d_W_law_619 : decode code 619 = .ok (.aload_n 2, 1) := by decide +kernel
theorem d_W_law_620 : decode code 620 = .ok (.invokevirtual 83, 3) := by decide +kernel
theorem d_W_law_623 : decode code 623 = .ok (.iload 5, 2) := by decide +kernel
theorem d_W_law_625 : decode code 625 = .ok (.if_icmp .eq 5, 3) := by decide +kernel
theorem d_W_law_628 : decode code 628 = .ok (.iconst 0, 1) := by decide +kernel
theorem d_W_law_629 : decode code 629 = .ok (.ireturn, 1) := by decide +kernel
theorem d_W_law_630 : decode code 630 = .ok (.iload 5, 2) := by decide +kernel
theorem d_W_law_632 : decode code 632 = .ok (.ifCond .ne 15, 3) := by decide +kernel
theorem d_W_law_635 : decode code 635 = .ok (.aload_n 3, 1) := by decide +kernel
theorem d_W_law_636 : decode code 636 = .ok (.iconst 0, 1) := by decide +kernel
theorem d_W_law_637 : decode code 637 = .ok (.laload, 1) := by decide +kernel
theorem d_W_law_638 : decode code 638 = .ok (.iload 6, 2) := by decide +kernel
theorem d_W_law_640 : decode code 640 = .ok (.i2l, 1) := by decide +kernel
theorem d_W_law_641 : decode code 641 = .ok (.lcmp, 1) := by decide +kernel
theorem d_W_law_642 : decode code 642 = .ok (.ifCond .eq 5, 3) := by decide +kernel
theorem d_W_law_645 : decode code 645 = .ok (.iconst 0, 1) := by decide +kernel
theorem d_W_law_646 : decode code 646 = .ok (.ireturn, 1) := by decide +kernel
theorem d_W_law_647 : decode code 647 = .ok (.goto 556, 3) := by decide +kernel
theorem d_W_law_650 : decode code 650 = .ok (.aload_n 1, 1) := by decide +kernel
theorem d_W_law_651 : decode code 651 = .ok (.aload_n 0, 1) := by decide +kernel
theorem d_W_law_652 : decode code 652 = .ok (.iload 4, 2) := by decide +kernel
theorem d_W_law_654 : decode code 654 = .ok (.iconst 1, 1) := by decide +kernel
theorem d_W_law_655 : decode code 655 = .ok (.iadd, 1) := by decide +kernel
theorem d_W_law_656 : decode code 656 = .ok (.iaload, 1) := by decide +kernel
theorem d_W_law_657 : decode code 657 = .ok (.aload_n 0, 1) := by decide +kernel
theorem d_W_law_658 : decode code 658 = .ok (.iload 4, 2) := by decide +kernel
theorem d_W_law_660 : decode code 660 = .ok (.iconst 2, 1) := by decide +kernel
theorem d_W_law_661 : decode code 661 = .ok (.iadd, 1) := by decide +kernel
theorem d_W_law_662 : decode code 662 = .ok (.iaload, 1) := by decide +kernel
theorem d_W_law_663 : decode code 663 = .ok (.invokestatic 113, 3) := by decide +kernel
theorem d_W_law_666 : decode code 666 = .ok (.istore 5, 2) := by decide +kernel
theorem d_W_law_668 : decode code 668 = .ok (.aload_n 2, 1) := by decide +kernel
theorem d_W_law_669 : decode code 669 = .ok (.aload_n 0, 1) := by decide +kernel
theorem d_W_law_670 : decode code 670 = .ok (.iload 4, 2) := by decide +kernel
theorem d_W_law_672 : decode code 672 = .ok (.iconst 1, 1) := by decide +kernel
theorem d_W_law_673 : decode code 673 = .ok (.iadd, 1) := by decide +kernel
theorem d_W_law_674 : decode code 674 = .ok (.iaload, 1) := by decide +kernel
theorem d_W_law_675 : decode code 675 = .ok (.aload_n 0, 1) := by decide +kernel
theorem d_W_law_676 : decode code 676 = .ok (.iload 4, 2) := by decide +kernel
theorem d_W_law_678 : decode code 678 = .ok (.iconst 2, 1) := by decide +kernel
theorem d_W_law_679 : decode code 679 = .ok (.iadd, 1) := by decide +kernel
theorem d_W_law_680 : decode code 680 = .ok (.iaload, 1) := by decide +kernel
theorem d_W_law_681 : decode code 681 = .ok (.invokevirtual 115, 3) := by decide +kernel
theorem d_W_law_684 : decode code 684 = .ok (.aload_n 2, 1) := by decide +kernel
theorem d_W_law_685 : decode code 685 = .ok (.invokevirtual 83, 3) := by decide +kernel
theorem d_W_law_688 : decode code 688 = .ok (.iload 5, 2) := by decide +kernel
theorem d_W_law_690 : decode code 690 = .ok (.if_icmp .eq 5, 3) := by decide +kernel
theorem d_W_law_693 : decode code 693 = .ok (.iconst 0, 1) := by decide +kernel
theorem d_W_law_694 : decode code 694 = .ok (.ireturn, 1) := by decide +kernel
theorem d_W_law_695 : decode code 695 = .ok (.goto 508, 3) := by decide +kernel
theorem d_W_law_698 : decode code 698 = .ok (.aload_n 1, 1) := by decide +kernel
theorem d_W_law_699 : decode code 699 = .ok (.aload_n 0, 1) := by decide +kernel
theorem d_W_law_700 : decode code 700 = .ok (.iload 4, 2) := by decide +kernel
theorem d_W_law_702 : decode code 702 = .ok (.iconst 1, 1) := by decide +kernel
theorem d_W_law_703 : decode code 703 = .ok (.iadd, 1) := by decide +kernel
theorem d_W_law_704 : decode code 704 = .ok (.iaload, 1) := by decide +kernel
theorem d_W_law_705 : decode code 705 = .ok (.aload_n 3, 1) := by decide +kernel
theorem d_W_law_706 : decode code 706 = .ok (.invokestatic 116, 3) := by decide +kernel
theorem d_W_law_709 : decode code 709 = .ok (.istore 5, 2) := by decide +kernel
theorem d_W_law_711 : decode code 711 = .ok (.aload_n 2, 1) := by decide +kernel
theorem d_W_law_712 : decode code 712 = .ok (.aload_n 0, 1) := by decide +kernel
theorem d_W_law_713 : decode code 713 = .ok (.iload 4, 2) := by decide +kernel
theorem d_W_law_715 : decode code 715 = .ok (.iconst 1, 1) := by decide +kernel
theorem d_W_law_716 : decode code 716 = .ok (.iadd, 1) := by decide +kernel
theorem d_W_law_717 : decode code 717 = .ok (.iaload, 1) := by decide +kernel
theorem d_W_law_718 : decode code 718 = .ok (.invokevirtual 118, 3) := by decide +kernel
theorem d_W_law_721 : decode code 721 = .ok (.istore 6, 2) := by decide +kernel
theorem d_W_law_723 : decode code 723 = .ok (.aload_n 2, 1) := by decide +kernel
theorem d_W_law_724 : decode code 724 = .ok (.invokevirtual 83, 3) := by decide +kernel
theorem d_W_law_727 : decode code 727 = .ok (.iload 5, 2) := by decide +kernel
theorem d_W_law_729 : decode code 729 = .ok (.if_icmp .eq 5, 3) := by decide +kernel
theorem d_W_law_732 : decode code 732 = .ok (.iconst 0, 1) := by decide +kernel
theorem d_W_law_733 : decode code 733 = .ok (.ireturn, 1) := by decide +kernel
theorem d_W_law_734 : decode code 734 = .ok (.iload 5, 2) := by decide +kernel
theorem d_W_law_736 : decode code 736 = .ok (.ifCond .ne 15, 3) := by decide +kernel
theorem d_W_law_739 : decode code 739 = .ok (.aload_n 3, 1) := by decide +kernel
theorem d_W_law_740 : decode code 740 = .ok (.iconst 0, 1) := by decide +kernel
theorem d_W_law_741 : decode code 741 = .ok (.laload, 1) := by decide +kernel
theorem d_W_law_742 : decode code 742 = .ok (.iload 6, 2) := by decide +kernel
theorem d_W_law_744 : decode code 744 = .ok (.i2l, 1) := by decide +kernel
theorem d_W_law_745 : decode code 745 = .ok (.lcmp, 1) := by decide +kernel
theorem d_W_law_746 : decode code 746 = .ok (.ifCond .eq 5, 3) := by decide +kernel
theorem d_W_law_749 : decode code 749 = .ok (.iconst 0, 1) := by decide +kernel
theorem d_W_law_750 : decode code 750 = .ok (.ireturn, 1) := by decide +kernel
theorem d_W_law_751 : decode code 751 = .ok (.goto 452, 3) := by decide +kernel
theorem d_W_law_754 : decode code 754 = .ok (.aload_n 1, 1) := by decide +kernel
theorem d_W_law_755 : decode code 755 = .ok (.aload_n 0, 1) := by decide +kernel
theorem d_W_law_756 : decode code 756 = .ok (.iload 4, 2) := by decide +kernel
theorem d_W_law_758 : decode code 758 = .ok (.iconst 1, 1) := by decide +kernel
theorem d_W_law_759 : decode code 759 = .ok (.iadd, 1) := by decide +kernel
theorem d_W_law_760 : decode code 760 = .ok (.iaload, 1) := by decide +kernel
theorem d_W_law_761 : decode code 761 = .ok (.aload_n 0, 1) := by decide +kernel
theorem d_W_law_762 : decode code 762 = .ok (.iload 4, 2) := by decide +kernel
theorem d_W_law_764 : decode code 764 = .ok (.iconst 2, 1) := by decide +kernel
theorem d_W_law_765 : decode code 765 = .ok (.iadd, 1) := by decide +kernel
theorem d_W_law_766 : decode code 766 = .ok (.iaload, 1) := by decide +kernel
theorem d_W_law_767 : decode code 767 = .ok (.aload_n 3, 1) := by decide +kernel
theorem d_W_law_768 : decode code 768 = .ok (.invokestatic 119, 3) := by decide +kernel
theorem d_W_law_771 : decode code 771 = .ok (.istore 5, 2) := by decide +kernel
theorem d_W_law_773 : decode code 773 = .ok (.aload_n 2, 1) := by decide +kernel
theorem d_W_law_774 : decode code 774 = .ok (.aload_n 0, 1) := by decide +kernel
theorem d_W_law_775 : decode code 775 = .ok (.iload 4, 2) := by decide +kernel
theorem d_W_law_777 : decode code 777 = .ok (.iconst 1, 1) := by decide +kernel
theorem d_W_law_778 : decode code 778 = .ok (.iadd, 1) := by decide +kernel
theorem d_W_law_779 : decode code 779 = .ok (.iaload, 1) := by decide +kernel
theorem d_W_law_780 : decode code 780 = .ok (.aload_n 0, 1) := by decide +kernel
theorem d_W_law_781 : decode code 781 = .ok (.iload 4, 2) := by decide +kernel
theorem d_W_law_783 : decode code 783 = .ok (.iconst 2, 1) := by decide +kernel
theorem d_W_law_784 : decode code 784 = .ok (.iadd, 1) := by decide +kernel
theorem d_W_law_785 : decode code 785 = .ok (.iaload, 1) := by decide +kernel
theorem d_W_law_786 : decode code 786 = .ok (.invokevirtual 121, 3) := by decide +kernel
theorem d_W_law_789 : decode code 789 = .ok (.istore 6, 2) := by decide +kernel
theorem d_W_law_791 : decode code 791 = .ok (.aload_n 2, 1) := by decide +kernel
theorem d_W_law_792 : decode code 792 = .ok (.invokevirtual 83, 3) := by decide +kernel
theorem d_W_law_795 : decode code 795 = .ok (.iload 5, 2) := by decide +kernel
theorem d_W_law_797 : decode code 797 = .ok (.if_icmp .eq 5, 3) := by decide +kernel
theorem d_W_law_800 : decode code 800 = .ok (.iconst 0, 1) := by decide +kernel
theorem d_W_law_801 : decode code 801 = .ok (.ireturn, 1) := by decide +kernel
theorem d_W_law_802 : decode code 802 = .ok (.iload 5, 2) := by decide +kernel
theorem d_W_law_804 : decode code 804 = .ok (.ifCond .ne 15, 3) := by decide +kernel
theorem d_W_law_807 : decode code 807 = .ok (.aload_n 3, 1) := by decide +kernel
theorem d_W_law_808 : decode code 808 = .ok (.iconst 0, 1) := by decide +kernel
theorem d_W_law_809 : decode code 809 = .ok (.laload, 1) := by decide +kernel
theorem d_W_law_810 : decode code 810 = .ok (.iload 6, 2) := by decide +kernel
theorem d_W_law_812 : decode code 812 = .ok (.i2l, 1) := by decide +kernel
theorem d_W_law_813 : decode code 813 = .ok (.lcmp, 1) := by decide +kernel
theorem d_W_law_814 : decode code 814 = .ok (.ifCond .eq 5, 3) := by decide +kernel
theorem d_W_law_817 : decode code 817 = .ok (.iconst 0, 1) := by decide +kernel
theorem d_W_law_818 : decode code 818 = .ok (.ireturn, 1) := by decide +kernel
theorem d_W_law_819 : decode code 819 = .ok (.goto 384, 3) := by decide +kernel
theorem d_W_law_822 : decode code 822 = .ok (.aload_n 1, 1) := by decide +kernel
theorem d_W_law_823 : decode code 823 = .ok (.aload_n 0, 1) := by decide +kernel
theorem d_W_law_824 : decode code 824 = .ok (.iload 4, 2) := by decide +kernel
theorem d_W_law_826 : decode code 826 = .ok (.iconst 1, 1) := by decide +kernel
theorem d_W_law_827 : decode code 827 = .ok (.iadd, 1) := by decide +kernel
theorem d_W_law_828 : decode code 828 = .ok (.iaload, 1) := by decide +kernel
theorem d_W_law_829 : decode code 829 = .ok (.aload_n 0, 1) := by decide +kernel
theorem d_W_law_830 : decode code 830 = .ok (.iload 4, 2) := by decide +kernel
theorem d_W_law_832 : decode code 832 = .ok (.iconst 2, 1) := by decide +kernel
theorem d_W_law_833 : decode code 833 = .ok (.iadd, 1) := by decide +kernel
theorem d_W_law_834 : decode code 834 = .ok (.iaload, 1) := by decide +kernel
theorem d_W_law_835 : decode code 835 = .ok (.aload_n 3, 1) := by decide +kernel
theorem d_W_law_836 : decode code 836 = .ok (.invokestatic 122, 3) := by decide +kernel
theorem d_W_law_839 : decode code 839 = .ok (.istore 5, 2) := by decide +kernel
theorem d_W_law_841 : decode code 841 = .ok (.aload_n 2, 1) := by decide +kernel
theorem d_W_law_842 : decode code 842 = .ok (.aload_n 0, 1) := by decide +kernel
theorem d_W_law_843 : decode code 843 = .ok (.iload 4, 2) := by decide +kernel
theorem d_W_law_845 : decode code 845 = .ok (.iconst 1, 1) := by decide +kernel
theorem d_W_law_846 : decode code 846 = .ok (.iadd, 1) := by decide +kernel
theorem d_W_law_847 : decode code 847 = .ok (.iaload, 1) := by decide +kernel
theorem d_W_law_848 : decode code 848 = .ok (.aload_n 0, 1) := by decide +kernel
theorem d_W_law_849 : decode code 849 = .ok (.iload 4, 2) := by decide +kernel
theorem d_W_law_851 : decode code 851 = .ok (.iconst 2, 1) := by decide +kernel
theorem d_W_law_852 : decode code 852 = .ok (.iadd, 1) := by decide +kernel
theorem d_W_law_853 : decode code 853 = .ok (.iaload, 1) := by decide +kernel
theorem d_W_law_854 : decode code 854 = .ok (.invokevirtual 124, 3) := by decide +kernel
theorem d_W_law_857 : decode code 857 = .ok (.lstore 6, 2) := by decide +kernel
theorem d_W_law_859 : decode code 859 = .ok (.aload_n 2, 1) := by decide +kernel
theorem d_W_law_860 : decode code 860 = .ok (.invokevirtual 83, 3) := by decide +kernel
theorem d_W_law_863 : decode code 863 = .ok (.iload 5, 2) := by decide +kernel
theorem d_W_law_865 : decode code 865 = .ok (.if_icmp .eq 5, 3) := by decide +kernel
theorem d_W_law_868 : decode code 868 = .ok (.iconst 0, 1) := by decide +kernel
theorem d_W_law_869 : decode code 869 = .ok (.ireturn, 1) := by decide +kernel
theorem d_W_law_870 : decode code 870 = .ok (.iload 5, 2) := by decide +kernel
theorem d_W_law_872 : decode code 872 = .ok (.ifCond .ne 14, 3) := by decide +kernel
theorem d_W_law_875 : decode code 875 = .ok (.aload_n 3, 1) := by decide +kernel
theorem d_W_law_876 : decode code 876 = .ok (.iconst 0, 1) := by decide +kernel
theorem d_W_law_877 : decode code 877 = .ok (.laload, 1) := by decide +kernel
theorem d_W_law_878 : decode code 878 = .ok (.lload 6, 2) := by decide +kernel
theorem d_W_law_880 : decode code 880 = .ok (.lcmp, 1) := by decide +kernel
theorem d_W_law_881 : decode code 881 = .ok (.ifCond .eq 5, 3) := by decide +kernel
theorem d_W_law_884 : decode code 884 = .ok (.iconst 0, 1) := by decide +kernel
theorem d_W_law_885 : decode code 885 = .ok (.ireturn, 1) := by decide +kernel
theorem d_W_law_886 : decode code 886 = .ok (.goto 317, 3) := by decide +kernel
theorem d_W_law_889 : decode code 889 = .ok (.aload_n 1, 1) := by decide +kernel
theorem d_W_law_890 : decode code 890 = .ok (.aload_n 0, 1) := by decide +kernel
theorem d_W_law_891 : decode code 891 = .ok (.iload 4, 2) := by decide +kernel
theorem d_W_law_893 : decode code 893 = .ok (.iconst 1, 1) := by decide +kernel
theorem d_W_law_894 : decode code 894 = .ok (.iadd, 1) := by decide +kernel
theorem d_W_law_895 : decode code 895 = .ok (.iaload, 1) := by decide +kernel
theorem d_W_law_896 : decode code 896 = .ok (.aload_n 3, 1) := by decide +kernel
theorem d_W_law_897 : decode code 897 = .ok (.invokestatic 125, 3) := by decide +kernel
theorem d_W_law_900 : decode code 900 = .ok (.istore 5, 2) := by decide +kernel
theorem d_W_law_902 : decode code 902 = .ok (.aload_n 2, 1) := by decide +kernel
theorem d_W_law_903 : decode code 903 = .ok (.aload_n 0, 1) := by decide +kernel
theorem d_W_law_904 : decode code 904 = .ok (.iload 4, 2) := by decide +kernel
theorem d_W_law_906 : decode code 906 = .ok (.iconst 1, 1) := by decide +kernel
theorem d_W_law_907 : decode code 907 = .ok (.iadd, 1) := by decide +kernel
theorem d_W_law_908 : decode code 908 = .ok (.iaload, 1) := by decide +kernel
theorem d_W_law_909 : decode code 909 = .ok (.invokevirtual 127, 3) := by decide +kernel
theorem d_W_law_912 : decode code 912 = .ok (.istore 6, 2) := by decide +kernel
theorem d_W_law_914 : decode code 914 = .ok (.aload_n 2, 1) := by decide +kernel
theorem d_W_law_915 : decode code 915 = .ok (.invokevirtual 83, 3) := by decide +kernel
theorem d_W_law_918 : decode code 918 = .ok (.iload 5, 2) := by decide +kernel
theorem d_W_law_920 : decode code 920 = .ok (.if_icmp .eq 5, 3) := by decide +kernel
theorem d_W_law_923 : decode code 923 = .ok (.iconst 0, 1) := by decide +kernel
theorem d_W_law_924 : decode code 924 = .ok (.ireturn, 1) := by decide +kernel
theorem d_W_law_925 : decode code 925 = .ok (.iload 5, 2) := by decide +kernel
theorem d_W_law_927 : decode code 927 = .ok (.ifCond .ne 15, 3) := by decide +kernel
theorem d_W_law_930 : decode code 930 = .ok (.aload_n 3, 1) := by decide +kernel
theorem d_W_law_931 : decode code 931 = .ok (.iconst 0, 1) := by decide +kernel
theorem d_W_law_932 : decode code 932 = .ok (.laload, 1) := by decide +kernel
theorem d_W_law_933 : decode code 933 = .ok (.iload 6, 2) := by decide +kernel
theorem d_W_law_935 : decode code 935 = .ok (.i2l, 1) := by decide +kernel
theorem d_W_law_936 : decode code 936 = .ok (.lcmp, 1) := by decide +kernel
theorem d_W_law_937 : decode code 937 = .ok (.ifCond .eq 5, 3) := by decide +kernel
theorem d_W_law_940 : decode code 940 = .ok (.iconst 0, 1) := by decide +kernel
theorem d_W_law_941 : decode code 941 = .ok (.ireturn, 1) := by decide +kernel
theorem d_W_law_942 : decode code 942 = .ok (.goto 261, 3) := by decide +kernel
theorem d_W_law_945 : decode code 945 = .ok (.aload_n 1, 1) := by decide +kernel
theorem d_W_law_946 : decode code 946 = .ok (.aload_n 0, 1) := by decide +kernel
theorem d_W_law_947 : decode code 947 = .ok (.iload 4, 2) := by decide +kernel
theorem d_W_law_949 : decode code 949 = .ok (.iconst 1, 1) := by decide +kernel
theorem d_W_law_950 : decode code 950 = .ok (.iadd, 1) := by decide +kernel
theorem d_W_law_951 : decode code 951 = .ok (.iaload, 1) := by decide +kernel
theorem d_W_law_952 : decode code 952 = .ok (.aload_n 0, 1) := by decide +kernel
theorem d_W_law_953 : decode code 953 = .ok (.iload 4, 2) := by decide +kernel
theorem d_W_law_955 : decode code 955 = .ok (.iconst 2, 1) := by decide +kernel
theorem d_W_law_956 : decode code 956 = .ok (.iadd, 1) := by decide +kernel
theorem d_W_law_957 : decode code 957 = .ok (.iaload, 1) := by decide +kernel
theorem d_W_law_958 : decode code 958 = .ok (.aload_n 3, 1) := by decide +kernel
theorem d_W_law_959 : decode code 959 = .ok (.invokestatic 128, 3) := by decide +kernel
theorem d_W_law_962 : decode code 962 = .ok (.istore 5, 2) := by decide +kernel
theorem d_W_law_964 : decode code 964 = .ok (.aload_n 2, 1) := by decide +kernel
theorem d_W_law_965 : decode code 965 = .ok (.aload_n 0, 1) := by decide +kernel
theorem d_W_law_966 : decode code 966 = .ok (.iload 4, 2) := by decide +kernel
theorem d_W_law_968 : decode code 968 = .ok (.iconst 1, 1) := by decide +kernel
theorem d_W_law_969 : decode code 969 = .ok (.iadd, 1) := by decide +kernel
theorem d_W_law_970 : decode code 970 = .ok (.iaload, 1) := by decide +kernel
theorem d_W_law_971 : decode code 971 = .ok (.aload_n 0, 1) := by decide +kernel
theorem d_W_law_972 : decode code 972 = .ok (.iload 4, 2) := by decide +kernel
theorem d_W_law_974 : decode code 974 = .ok (.iconst 2, 1) := by decide +kernel
theorem d_W_law_975 : decode code 975 = .ok (.iadd, 1) := by decide +kernel
theorem d_W_law_976 : decode code 976 = .ok (.iaload, 1) := by decide +kernel
theorem d_W_law_977 : decode code 977 = .ok (.invokevirtual 130, 3) := by decide +kernel
theorem d_W_law_980 : decode code 980 = .ok (.istore 6, 2) := by decide +kernel
theorem d_W_law_982 : decode code 982 = .ok (.aload_n 2, 1) := by decide +kernel
theorem d_W_law_983 : decode code 983 = .ok (.invokevirtual 83, 3) := by decide +kernel
theorem d_W_law_986 : decode code 986 = .ok (.iload 5, 2) := by decide +kernel
theorem d_W_law_988 : decode code 988 = .ok (.if_icmp .eq 5, 3) := by decide +kernel
theorem d_W_law_991 : decode code 991 = .ok (.iconst 0, 1) := by decide +kernel
theorem d_W_law_992 : decode code 992 = .ok (.ireturn, 1) := by decide +kernel
theorem d_W_law_993 : decode code 993 = .ok (.iload 5, 2) := by decide +kernel
theorem d_W_law_995 : decode code 995 = .ok (.ifCond .ne 15, 3) := by decide +kernel
theorem d_W_law_998 : decode code 998 = .ok (.aload_n 3, 1) := by decide +kernel
theorem d_W_law_999 : decode code 999 = .ok (.iconst 0, 1) := by decide +kernel
theorem d_W_law_1000 : decode code 1000 = .ok (.laload, 1) := by decide +kernel
theorem d_W_law_1001 : decode code 1001 = .ok (.iload 6, 2) := by decide +kernel
theorem d_W_law_1003 : decode code 1003 = .ok (.i2l, 1) := by decide +kernel
theorem d_W_law_1004 : decode code 1004 = .ok (.lcmp, 1) := by decide +kernel
theorem d_W_law_1005 : decode code 1005 = .ok (.ifCond .eq 5, 3) := by decide +kernel
theorem d_W_law_1008 : decode code 1008 = .ok (.iconst 0, 1) := by decide +kernel
theorem d_W_law_1009 : decode code 1009 = .ok (.ireturn, 1) := by decide +kernel
theorem d_W_law_1010 : decode code 1010 = .ok (.goto 193, 3) := by decide +kernel
theorem d_W_law_1013 : decode code 1013 = .ok (.aload_n 1, 1) := by decide +kernel
theorem d_W_law_1014 : decode code 1014 = .ok (.invokevirtual 131, 3) := by decide +kernel
theorem d_W_law_1017 : decode code 1017 = .ok (.aload_n 2, 1) := by decide +kernel
theorem d_W_law_1018 : decode code 1018 = .ok (.invokevirtual 134, 3) := by decide +kernel
theorem d_W_law_1021 : decode code 1021 = .ok (.if_icmp .eq 182, 3) := by decide +kernel
theorem d_W_law_1024 : decode code 1024 = .ok (.iconst 0, 1) := by decide +kernel
theorem d_W_law_1025 : decode code 1025 = .ok (.ireturn, 1) := by decide +kernel
theorem d_W_law_1026 : decode code 1026 = .ok (.aload_n 1, 1) := by decide +kernel
theorem d_W_law_1027 : decode code 1027 = .ok (.aload_n 0, 1) := by decide +kernel
theorem d_W_law_1028 : decode code 1028 = .ok (.iload 4, 2) := by decide +kernel
theorem d_W_law_1030 : decode code 1030 = .ok (.iconst 1, 1) := by decide +kernel
theorem d_W_law_1031 : decode code 1031 = .ok (.iadd, 1) := by decide +kernel
theorem d_W_law_1032 : decode code 1032 = .ok (.iaload, 1) := by decide +kernel
theorem d_W_law_1033 : decode code 1033 = .ok (.aload_n 0, 1) := by decide +kernel
theorem d_W_law_1034 : decode code 1034 = .ok (.iload 4, 2) := by decide +kernel
theorem d_W_law_1036 : decode code 1036 = .ok (.iconst 2, 1) := by decide +kernel
theorem d_W_law_1037 : decode code 1037 = .ok (.iadd, 1) := by decide +kernel
theorem d_W_law_1038 : decode code 1038 = .ok (.iaload, 1) := by decide +kernel
theorem d_W_law_1039 : decode code 1039 = .ok (.aload_n 3, 1) := by decide +kernel
theorem d_W_law_1040 : decode code 1040 = .ok (.invokestatic 135, 3) := by decide +kernel
theorem d_W_law_1043 : decode code 1043 = .ok (.istore 5, 2) := by decide +kernel
theorem d_W_law_1045 : decode code 1045 = .ok (.aload_n 2, 1) := by decide +kernel
theorem d_W_law_1046 : decode code 1046 = .ok (.aload_n 0, 1) := by decide +kernel
theorem d_W_law_1047 : decode code 1047 = .ok (.iload 4, 2) := by decide +kernel
theorem d_W_law_1049 : decode code 1049 = .ok (.iconst 1, 1) := by decide +kernel
theorem d_W_law_1050 : decode code 1050 = .ok (.iadd, 1) := by decide +kernel
theorem d_W_law_1051 : decode code 1051 = .ok (.iaload, 1) := by decide +kernel
theorem d_W_law_1052 : decode code 1052 = .ok (.aload_n 0, 1) := by decide +kernel
theorem d_W_law_1053 : decode code 1053 = .ok (.iload 4, 2) := by decide +kernel
theorem d_W_law_1055 : decode code 1055 = .ok (.iconst 2, 1) := by decide +kernel
theorem d_W_law_1056 : decode code 1056 = .ok (.iadd, 1) := by decide +kernel
theorem d_W_law_1057 : decode code 1057 = .ok (.iaload, 1) := by decide +kernel
theorem d_W_law_1058 : decode code 1058 = .ok (.invokevirtual 137, 3) := by decide +kernel
theorem d_W_law_1061 : decode code 1061 = .ok (.lstore 6, 2) := by decide +kernel
theorem d_W_law_1063 : decode code 1063 = .ok (.aload_n 2, 1) := by decide +kernel
theorem d_W_law_1064 : decode code 1064 = .ok (.invokevirtual 83, 3) := by decide +kernel
theorem d_W_law_1067 : decode code 1067 = .ok (.iload 5, 2) := by decide +kernel
theorem d_W_law_1069 : decode code 1069 = .ok (.if_icmp .eq 5, 3) := by decide +kernel
theorem d_W_law_1072 : decode code 1072 = .ok (.iconst 0, 1) := by decide +kernel
theorem d_W_law_1073 : decode code 1073 = .ok (.ireturn, 1) := by decide +kernel
theorem d_W_law_1074 : decode code 1074 = .ok (.iload 5, 2) := by decide +kernel
theorem d_W_law_1076 : decode code 1076 = .ok (.ifCond .ne 14, 3) := by decide +kernel
theorem d_W_law_1079 : decode code 1079 = .ok (.aload_n 3, 1) := by decide +kernel
theorem d_W_law_1080 : decode code 1080 = .ok (.iconst 0, 1) := by decide +kernel
theorem d_W_law_1081 : decode code 1081 = .ok (.laload, 1) := by decide +kernel
theorem d_W_law_1082 : decode code 1082 = .ok (.lload 6, 2) := by decide +kernel
theorem d_W_law_1084 : decode code 1084 = .ok (.lcmp, 1) := by decide +kernel
theorem d_W_law_1085 : decode code 1085 = .ok (.ifCond .eq 5, 3) := by decide +kernel
theorem d_W_law_1088 : decode code 1088 = .ok (.iconst 0, 1) := by decide +kernel
theorem d_W_law_1089 : decode code 1089 = .ok (.ireturn, 1) := by decide +kernel
theorem d_W_law_1090 : decode code 1090 = .ok (.goto 113, 3) := by decide +kernel
theorem d_W_law_1093 : decode code 1093 = .ok (.aload_n 1, 1) := by decide +kernel
theorem d_W_law_1094 : decode code 1094 = .ok (.aload_n 0, 1) := by decide +kernel
theorem d_W_law_1095 : decode code 1095 = .ok (.iload 4, 2) := by decide +kernel
theorem d_W_law_1097 : decode code 1097 = .ok (.iconst 1, 1) := by decide +kernel
theorem d_W_law_1098 : decode code 1098 = .ok (.iadd, 1) := by decide +kernel
theorem d_W_law_1099 : decode code 1099 = .ok (.iaload, 1) := by decide +kernel
theorem d_W_law_1100 : decode code 1100 = .ok (.aload_n 3, 1) := by decide +kernel
theorem d_W_law_1101 : decode code 1101 = .ok (.invokestatic 138, 3) := by decide +kernel
theorem d_W_law_1104 : decode code 1104 = .ok (.istore 5, 2) := by decide +kernel
theorem d_W_law_1106 : decode code 1106 = .ok (.aload_n 2, 1) := by decide +kernel
theorem d_W_law_1107 : decode code 1107 = .ok (.aload_n 0, 1) := by decide +kernel
theorem d_W_law_1108 : decode code 1108 = .ok (.iload 4, 2) := by decide +kernel
theorem d_W_law_1110 : decode code 1110 = .ok (.iconst 1, 1) := by decide +kernel
theorem d_W_law_1111 : decode code 1111 = .ok (.iadd, 1) := by decide +kernel
theorem d_W_law_1112 : decode code 1112 = .ok (.iaload, 1) := by decide +kernel
theorem d_W_law_1113 : decode code 1113 = .ok (.invokevirtual 140, 3) := by decide +kernel
theorem d_W_law_1116 : decode code 1116 = .ok (.lstore 6, 2) := by decide +kernel
theorem d_W_law_1118 : decode code 1118 = .ok (.aload_n 2, 1) := by decide +kernel
theorem d_W_law_1119 : decode code 1119 = .ok (.invokevirtual 83, 3) := by decide +kernel
theorem d_W_law_1122 : decode code 1122 = .ok (.iload 5, 2) := by decide +kernel
theorem d_W_law_1124 : decode code 1124 = .ok (.if_icmp .eq 5, 3) := by decide +kernel
theorem d_W_law_1127 : decode code 1127 = .ok (.iconst 0, 1) := by decide +kernel
theorem d_W_law_1128 : decode code 1128 = .ok (.ireturn, 1) := by decide +kernel
theorem d_W_law_1129 : decode code 1129 = .ok (.iload 5, 2) := by decide +kernel
theorem d_W_law_1131 : decode code 1131 = .ok (.ifCond .ne 14, 3) := by decide +kernel
theorem d_W_law_1134 : decode code 1134 = .ok (.aload_n 3, 1) := by decide +kernel
theorem d_W_law_1135 : decode code 1135 = .ok (.iconst 0, 1) := by decide +kernel
theorem d_W_law_1136 : decode code 1136 = .ok (.laload, 1) := by decide +kernel
theorem d_W_law_1137 : decode code 1137 = .ok (.lload 6, 2) := by decide +kernel
theorem d_W_law_1139 : decode code 1139 = .ok (.lcmp, 1) := by decide +kernel
theorem d_W_law_1140 : decode code 1140 = .ok (.ifCond .eq 5, 3) := by decide +kernel
theorem d_W_law_1143 : decode code 1143 = .ok (.iconst 0, 1) := by decide +kernel
theorem d_W_law_1144 : decode code 1144 = .ok (.ireturn, 1) := by decide +kernel
theorem d_W_law_1145 : decode code 1145 = .ok (.goto 58, 3) := by decide +kernel
theorem d_W_law_1148 : decode code 1148 = .ok (.aload_n 1, 1) := by decide +kernel
theorem d_W_law_1149 : decode code 1149 = .ok (.aload_n 0, 1) := by decide +kernel
theorem d_W_law_1150 : decode code 1150 = .ok (.iload 4, 2) := by decide +kernel
theorem d_W_law_1152 : decode code 1152 = .ok (.iconst 1, 1) := by decide +kernel
theorem d_W_law_1153 : decode code 1153 = .ok (.iadd, 1) := by decide +kernel
theorem d_W_law_1154 : decode code 1154 = .ok (.iaload, 1) := by decide +kernel
theorem d_W_law_1155 : decode code 1155 = .ok (.aload_n 3, 1) := by decide +kernel
theorem d_W_law_1156 : decode code 1156 = .ok (.invokestatic 141, 3) := by decide +kernel
theorem d_W_law_1159 : decode code 1159 = .ok (.istore 5, 2) := by decide +kernel
theorem d_W_law_1161 : decode code 1161 = .ok (.aload_n 2, 1) := by decide +kernel
theorem d_W_law_1162 : decode code 1162 = .ok (.aload_n 0, 1) := by decide +kernel
theorem d_W_law_1163 : decode code 1163 = .ok (.iload 4, 2) := by decide +kernel
theorem d_W_law_1165 : decode code 1165 = .ok (.iconst 1, 1) := by decide +kernel
theorem d_W_law_1166 : decode code 1166 = .ok (.iadd, 1) := by decide +kernel
theorem d_W_law_1167 : decode code 1167 = .ok (.iaload, 1) := by decide +kernel
theorem d_W_law_1168 : decode code 1168 = .ok (.invokevirtual 143, 3) := by decide +kernel
theorem d_W_law_1171 : decode code 1171 = .ok (.lstore 6, 2) := by decide +kernel
theorem d_W_law_1173 : decode code 1173 = .ok (.aload_n 2, 1) := by decide +kernel
theorem d_W_law_1174 : decode code 1174 = .ok (.invokevirtual 83, 3) := by decide +kernel
theorem d_W_law_1177 : decode code 1177 = .ok (.iload 5, 2) := by decide +kernel
theorem d_W_law_1179 : decode code 1179 = .ok (.if_icmp .eq 5, 3) := by decide +kernel
theorem d_W_law_1182 : decode code 1182 = .ok (.iconst 0, 1) := by decide +kernel
theorem d_W_law_1183 : decode code 1183 = .ok (.ireturn, 1) := by decide +kernel
theorem d_W_law_1184 : decode code 1184 = .ok (.iload 5, 2) := by decide +kernel
theorem d_W_law_1186 : decode code 1186 = .ok (.ifCond .ne 14, 3) := by decide +kernel
theorem d_W_law_1189 : decode code 1189 = .ok (.aload_n 3, 1) := by decide +kernel
theorem d_W_law_1190 : decode code 1190 = .ok (.iconst 0, 1) := by decide +kernel
theorem d_W_law_1191 : decode code 1191 = .ok (.laload, 1) := by decide +kernel
theorem d_W_law_1192 : decode code 1192 = .ok (.lload 6, 2) := by decide +kernel
theorem d_W_law_1194 : decode code 1194 = .ok (.lcmp, 1) := by decide +kernel
theorem d_W_law_1195 : decode code 1195 = .ok (.ifCond .eq 5, 3) := by decide +kernel
theorem d_W_law_1198 : decode code 1198 = .ok (.iconst 0, 1) := by decide +kernel
theorem d_W_law_1199 : decode code 1199 = .ok (.ireturn, 1) := by decide +kernel
theorem d_W_law_1200 : decode code 1200 = .ok (.goto 3, 3) := by decide +kernel
theorem d_W_law_1203 : decode code 1203 = .ok (.iinc 4 4, 3) := by decide +kernel
theorem d_W_law_1206 : decode code 1206 = .ok (.goto (-1183), 3) := by decide +kernel
theorem d_W_law_1209 : decode code 1209 = .ok (.iconst 1, 1) := by decide +kernel
theorem d_W_law_1210 : decode code 1210 = .ok (.ireturn, 1) := by decide +kernel
