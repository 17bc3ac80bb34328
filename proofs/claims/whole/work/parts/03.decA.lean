theorem d_S_init_0 : decode c_S_init 0 = .ok (.aload_n 0, 1) := by decide +kernel
theorem d_S_init_1 : decode c_S_init 1 = .ok (.invokespecial 3, 3) := by decide +kernel
theorem d_S_init_4 : decode c_S_init 4 = .ok (.aload_n 0, 1) := by decide +kernel
theorem d_S_init_5 : decode c_S_init 5 = .ok (.new 9, 3) := by decide +kernel
theorem d_S_init_8 : decode c_S_init 8 = .ok (.dup, 1) := by decide +kernel
theorem d_S_init_9 : decode c_S_init 9 = .ok (.invokespecial 11, 3) := by decide +kernel
theorem d_S_init_12 : decode c_S_init 12 = .ok (.putfield 12, 3) := by decide +kernel
theorem d_S_init_15 : decode c_S_init 15 = .ok (.aload_n 0, 1) := by decide +kernel
theorem d_S_init_16 : decode c_S_init 16 = .ok (.new 16, 3) := by decide +kernel
theorem d_S_init_19 : decode c_S_init 19 = .ok (.dup, 1) := by decide +kernel
theorem d_S_init_20 : decode c_S_init 20 = .ok (.aload_n 0, 1) := by decide +kernel
theorem d_S_init_21 : decode c_S_init 21 = .ok (.getfield 12, 3) := by decide +kernel
theorem d_S_init_24 : decode c_S_init 24 = .ok (.invokespecial 18, 3) := by decide +kernel
theorem d_S_init_27 : decode c_S_init 27 = .ok (.putfield 21, 3) := by decide +kernel
theorem d_S_init_30 : decode c_S_init 30 = .ok (.aload_n 0, 1) := by decide +kernel
theorem d_S_init_31 : decode c_S_init 31 = .ok (.new 25, 3) := by decide +kernel
theorem d_S_init_34 : decode c_S_init 34 = .ok (.dup, 1) := by decide +kernel
theorem d_S_init_35 : decode c_S_init 35 = .ok (.aload_n 0, 1) := by decide +kernel
theorem d_S_init_36 : decode c_S_init 36 = .ok (.getfield 12, 3) := by decide +kernel
theorem d_S_init_39 : decode c_S_init 39 = .ok (.aload_n 0, 1) := by decide +kernel
theorem d_S_init_40 : decode c_S_init 40 = .ok (.getfield 21, 3) := by decide +kernel
theorem d_S_init_43 : decode c_S_init 43 = .ok (.invokespecial 27, 3) := by decide +kernel
theorem d_S_init_46 : decode c_S_init 46 = .ok (.putfield 30, 3) := by decide +kernel
theorem d_S_init_49 : decode c_S_init 49 = .ok (.aload_n 0, 1) := by decide +kernel
theorem d_S_init_50 : decode c_S_init 50 = .ok (.new 34, 3) := by decide +kernel
theorem d_S_init_53 : decode c_S_init 53 = .ok (.dup, 1) := by decide +kernel
theorem d_S_init_54 : decode c_S_init 54 = .ok (.aload_n 0, 1) := by decide +kernel
theorem d_S_init_55 : decode c_S_init 55 = .ok (.getfield 12, 3) := by decide +kernel
theorem d_S_init_58 : decode c_S_init 58 = .ok (.aload_n 0, 1) := by decide +kernel
theorem d_S_init_59 : decode c_S_init 59 = .ok (.getfield 21, 3) := by decide +kernel
theorem d_S_init_62 : decode c_S_init 62 = .ok (.aload_n 0, 1) := by decide +kernel
theorem d_S_init_63 : decode c_S_init 63 = .ok (.getfield 30, 3) := by decide +kernel
theorem d_S_init_66 : decode c_S_init 66 = .ok (.invokespecial 36, 3) := by decide +kernel
theorem d_S_init_69 : decode c_S_init 69 = .ok (.putfield 39, 3) := by decide +kernel
theorem d_S_init_72 : decode c_S_init 72 = .ok (.return_, 1) := by decide +kernel
theorem d_S_person_0 : decode c_S_person 0 = .ok (.iload_n 1, 1) := by decide +kernel
theorem d_S_person_1 : decode c_S_person 1 = .ok (.iload_n 2, 1) := by decide +kernel
theorem d_S_person_2 : decode c_S_person 2 = .ok (.aload_n 0, 1) := by decide +kernel
theorem d_S_person_3 : decode c_S_person 3 = .ok (.getfield 12, 3) := by decide +kernel
theorem d_S_person_6 : decode c_S_person 6 = .ok (.getfield 43, 3) := by decide +kernel
theorem d_S_person_9 : decode c_S_person 9 = .ok (.invokestatic 47, 3) := by decide +kernel
theorem d_S_person_12 : decode c_S_person 12 = .ok (.aload_n 0, 1) := by decide +kernel
theorem d_S_person_13 : decode c_S_person 13 = .ok (.getfield 12, 3) := by decide +kernel
theorem d_S_person_16 : decode c_S_person 16 = .ok (.getfield 43, 3) := by decide +kernel
theorem d_S_person_19 : decode c_S_person 19 = .ok (.bipush 20, 2) := by decide +kernel
theorem d_S_person_21 : decode c_S_person 21 = .ok (.if_icmp .lt 13, 3) := by decide +kernel
theorem d_S_person_24 : decode c_S_person 24 = .ok (.new 51, 3) := by decide +kernel
theorem d_S_person_27 : decode c_S_person 27 = .ok (.dup, 1) := by decide +kernel
theorem d_S_person_28 : decode c_S_person 28 = .ok (.ldc 53, 2) := by decide +kernel
theorem d_S_person_30 : decode c_S_person 30 = .ok (.invokespecial 55, 3) := by decide +kernel
theorem d_S_person_33 : decode c_S_person 33 = .ok (.athrow, 1) := by decide +kernel
theorem d_S_person_34 : decode c_S_person 34 = .ok (.aload_n 0, 1) := by decide +kernel
theorem d_S_person_35 : decode c_S_person 35 = .ok (.getfield 12, 3) := by decide +kernel
theorem d_S_person_38 : decode c_S_person 38 = .ok (.iload_n 1, 1) := by decide +kernel
theorem d_S_person_39 : decode c_S_person 39 = .ok (.iload_n 2, 1) := by decide +kernel
theorem d_S_person_40 : decode c_S_person 40 = .ok (.invokevirtual 58, 3) := by decide +kernel
theorem d_S_person_43 : decode c_S_person 43 = .ok (.ireturn, 1) := by decide +kernel
theorem d_S_amend_0 : decode c_S_amend 0 = .ok (.aload_n 0, 1) := by decide +kernel
theorem d_S_amend_1 : decode c_S_amend 1 = .ok (.iload_n 1, 1) := by decide +kernel
theorem d_S_amend_2 : decode c_S_amend 2 = .ok (.invokevirtual 62, 3) := by decide +kernel
theorem d_S_amend_5 : decode c_S_amend 5 = .ok (.iload_n 2, 1) := by decide +kernel
theorem d_S_amend_6 : decode c_S_amend 6 = .ok (.iload_n 3, 1) := by decide +kernel
theorem d_S_amend_7 : decode c_S_amend 7 = .ok (.iload_n 1, 1) := by decide +kernel
theorem d_S_amend_8 : decode c_S_amend 8 = .ok (.invokestatic 47, 3) := by decide +kernel
theorem d_S_amend_11 : decode c_S_amend 11 = .ok (.aload_n 0, 1) := by decide +kernel
theorem d_S_amend_12 : decode c_S_amend 12 = .ok (.getfield 12, 3) := by decide +kernel
theorem d_S_amend_15 : decode c_S_amend 15 = .ok (.getfield 66, 3) := by decide +kernel
theorem d_S_amend_18 : decode c_S_amend 18 = .ok (.iload_n 1, 1) := by decide +kernel
theorem d_S_amend_19 : decode c_S_amend 19 = .ok (.iload_n 2, 1) := by decide +kernel
theorem d_S_amend_20 : decode c_S_amend 20 = .ok (.iastore, 1) := by decide +kernel
theorem d_S_amend_21 : decode c_S_amend 21 = .ok (.aload_n 0, 1) := by decide +kernel
theorem d_S_amend_22 : decode c_S_amend 22 = .ok (.getfield 12, 3) := by decide +kernel
theorem d_S_amend_25 : decode c_S_amend 25 = .ok (.getfield 70, 3) := by decide +kernel
theorem d_S_amend_28 : decode c_S_amend 28 = .ok (.iload_n 1, 1) := by decide +kernel
theorem d_S_amend_29 : decode c_S_amend 29 = .ok (.iload_n 3, 1) := by decide +kernel
theorem d_S_amend_30 : decode c_S_amend 30 = .ok (.iastore, 1) := by decide +kernel
theorem d_S_amend_31 : decode c_S_amend 31 = .ok (.return_, 1) := by decide +kernel
theorem d_S_marry_0 : decode c_S_marry 0 = .ok (.aload_n 0, 1) := by decide +kernel
theorem d_S_marry_1 : decode c_S_marry 1 = .ok (.iload_n 1, 1) := by decide +kernel
theorem d_S_marry_2 : decode c_S_marry 2 = .ok (.invokevirtual 62, 3) := by decide +kernel
theorem d_S_marry_5 : decode c_S_marry 5 = .ok (.aload_n 0, 1) := by decide +kernel
theorem d_S_marry_6 : decode c_S_marry 6 = .ok (.iload_n 2, 1) := by decide +kernel
theorem d_S_marry_7 : decode c_S_marry 7 = .ok (.invokevirtual 62, 3) := by decide +kernel
theorem d_S_marry_10 : decode c_S_marry 10 = .ok (.iload_n 1, 1) := by decide +kernel
theorem d_S_marry_11 : decode c_S_marry 11 = .ok (.iload_n 2, 1) := by decide +kernel
theorem d_S_marry_12 : decode c_S_marry 12 = .ok (.if_icmp .ne 13, 3) := by decide +kernel
theorem d_S_marry_15 : decode c_S_marry 15 = .ok (.new 73, 3) := by decide +kernel
theorem d_S_marry_18 : decode c_S_marry 18 = .ok (.dup, 1) := by decide +kernel
theorem d_S_marry_19 : decode c_S_marry 19 = .ok (.ldc 75, 2) := by decide +kernel
theorem d_S_marry_21 : decode c_S_marry 21 = .ok (.invokespecial 77, 3) := by decide +kernel
theorem d_S_marry_24 : decode c_S_marry 24 = .ok (.athrow, 1) := by decide +kernel
theorem d_S_marry_25 : decode c_S_marry 25 = .ok (.aload_n 0, 1) := by decide +kernel
theorem d_S_marry_26 : decode c_S_marry 26 = .ok (.getfield 12, 3) := by decide +kernel
theorem d_S_marry_29 : decode c_S_marry 29 = .ok (.iload_n 1, 1) := by decide +kernel
theorem d_S_marry_30 : decode c_S_marry 30 = .ok (.invokevirtual 78, 3) := by decide +kernel
theorem d_S_marry_33 : decode c_S_marry 33 = .ok (.ifCond .eq 14, 3) := by decide +kernel
theorem d_S_marry_36 : decode c_S_marry 36 = .ok (.aload_n 0, 1) := by decide +kernel
theorem d_S_marry_37 : decode c_S_marry 37 = .ok (.getfield 12, 3) := by decide +kernel
theorem d_S_marry_40 : decode c_S_marry 40 = .ok (.iload_n 2, 1) := by decide +kernel
theorem d_S_marry_41 : decode c_S_marry 41 = .ok (.invokevirtual 78, 3) := by decide +kernel
theorem d_S_marry_44 : decode c_S_marry 44 = .ok (.ifCond .ne 13, 3) := by decide +kernel
theorem d_S_marry_47 : decode c_S_marry 47 = .ok (.new 51, 3) := by decide +kernel
theorem d_S_marry_50 : decode c_S_marry 50 = .ok (.dup, 1) := by decide +kernel
theorem d_S_marry_51 : decode c_S_marry 51 = .ok (.ldc 82, 2) := by decide +kernel
theorem d_S_marry_53 : decode c_S_marry 53 = .ok (.invokespecial 55, 3) := by decide +kernel
theorem d_S_marry_56 : decode c_S_marry 56 = .ok (.athrow, 1) := by decide +kernel
theorem d_S_marry_57 : decode c_S_marry 57 = .ok (.aload_n 0, 1) := by decide +kernel
theorem d_S_marry_58 : decode c_S_marry 58 = .ok (.getfield 12, 3) := by decide +kernel
theorem d_S_marry_61 : decode c_S_marry 61 = .ok (.getfield 84, 3) := by decide +kernel
theorem d_S_marry_64 : decode c_S_marry 64 = .ok (.iload_n 1, 1) := by decide +kernel
theorem d_S_marry_65 : decode c_S_marry 65 = .ok (.iload_n 2, 1) := by decide +kernel
theorem d_S_marry_66 : decode c_S_marry 66 = .ok (.iastore, 1) := by decide +kernel
theorem d_S_marry_67 : decode c_S_marry 67 = .ok (.aload_n 0, 1) := by decide +kernel
theorem d_S_marry_68 : decode c_S_marry 68 = .ok (.getfield 12, 3) := by decide +kernel
theorem d_S_marry_71 : decode c_S_marry 71 = .ok (.getfield 84, 3) := by decide +kernel
theorem d_S_marry_74 : decode c_S_marry 74 = .ok (.iload_n 2, 1) := by decide +kernel
theorem d_S_marry_75 : decode c_S_marry 75 = .ok (.iload_n 1, 1) := by decide +kernel
theorem d_S_marry_76 : decode c_S_marry 76 = .ok (.iastore, 1) := by decide +kernel
theorem d_S_marry_77 : decode c_S_marry 77 = .ok (.return_, 1) := by decide +kernel
theorem d_S_divorce_0 : decode c_S_divorce 0 = .ok (.aload_n 0, 1) := by decide +kernel
theorem d_S_divorce_1 : decode c_S_divorce 1 = .ok (.iload_n 1, 1) := by decide +kernel
theorem d_S_divorce_2 : decode c_S_divorce 2 = .ok (.invokevirtual 62, 3) := by decide +kernel
theorem d_S_divorce_5 : decode c_S_divorce 5 = .ok (.aload_n 0, 1) := by decide +kernel
theorem d_S_divorce_6 : decode c_S_divorce 6 = .ok (.getfield 12, 3) := by decide +kernel
theorem d_S_divorce_9 : decode c_S_divorce 9 = .ok (.getfield 84, 3) := by decide +kernel
theorem d_S_divorce_12 : decode c_S_divorce 12 = .ok (.iload_n 1, 1) := by decide +kernel
theorem d_S_divorce_13 : decode c_S_divorce 13 = .ok (.iaload, 1) := by decide +kernel
theorem d_S_divorce_14 : decode c_S_divorce 14 = .ok (.istore_n 2, 1) := by decide +kernel
theorem d_S_divorce_15 : decode c_S_divorce 15 = .ok (.iload_n 2, 1) := by decide +kernel
theorem d_S_divorce_16 : decode c_S_divorce 16 = .ok (.iconst (-1), 1) := by decide +kernel
theorem d_S_divorce_17 : decode c_S_divorce 17 = .ok (.if_icmp .eq 25, 3) := by decide +kernel
theorem d_S_divorce_20 : decode c_S_divorce 20 = .ok (.aload_n 0, 1) := by decide +kernel
theorem d_S_divorce_21 : decode c_S_divorce 21 = .ok (.getfield 12, 3) := by decide +kernel
theorem d_S_divorce_24 : decode c_S_divorce 24 = .ok (.iload_n 1, 1) := by decide +kernel
theorem d_S_divorce_25 : decode c_S_divorce 25 = .ok (.invokevirtual 87, 3) := by decide +kernel
theorem d_S_divorce_28 : decode c_S_divorce 28 = .ok (.ifCond .ne 14, 3) := by decide +kernel
theorem d_S_divorce_31 : decode c_S_divorce 31 = .ok (.aload_n 0, 1) := by decide +kernel
theorem d_S_divorce_32 : decode c_S_divorce 32 = .ok (.getfield 12, 3) := by decide +kernel
theorem d_S_divorce_35 : decode c_S_divorce 35 = .ok (.iload_n 2, 1) := by decide +kernel
theorem d_S_divorce_36 : decode c_S_divorce 36 = .ok (.invokevirtual 87, 3) := by decide +kernel
theorem d_S_divorce_39 : decode c_S_divorce 39 = .ok (.ifCond .eq 5, 3) := by decide +kernel
theorem d_S_divorce_42 : decode c_S_divorce 42 = .ok (.iconst 0, 1) := by decide +kernel
theorem d_S_divorce_43 : decode c_S_divorce 43 = .ok (.ireturn, 1) := by decide +kernel
theorem d_S_divorce_44 : decode c_S_divorce 44 = .ok (.aload_n 0, 1) := by decide +kernel
theorem d_S_divorce_45 : decode c_S_divorce 45 = .ok (.getfield 12, 3) := by decide +kernel
theorem d_S_divorce_48 : decode c_S_divorce 48 = .ok (.getfield 84, 3) := by decide +kernel
theorem d_S_divorce_51 : decode c_S_divorce 51 = .ok (.iload_n 1, 1) := by decide +kernel
theorem d_S_divorce_52 : decode c_S_divorce 52 = .ok (.iconst (-1), 1) := by decide +kernel
theorem d_S_divorce_53 : decode c_S_divorce 53 = .ok (.iastore, 1) := by decide +kernel
theorem d_S_divorce_54 : decode c_S_divorce 54 = .ok (.aload_n 0, 1) := by decide +kernel
theorem d_S_divorce_55 : decode c_S_divorce 55 = .ok (.getfield 12, 3) := by decide +kernel
theorem d_S_divorce_58 : decode c_S_divorce 58 = .ok (.getfield 84, 3) := by decide +kernel
theorem d_S_divorce_61 : decode c_S_divorce 61 = .ok (.iload_n 2, 1) := by decide +kernel
theorem d_S_divorce_62 : decode c_S_divorce 62 = .ok (.iconst (-1), 1) := by decide +kernel
theorem d_S_divorce_63 : decode c_S_divorce 63 = .ok (.iastore, 1) := by decide +kernel
theorem d_S_divorce_64 : decode c_S_divorce 64 = .ok (.iconst 1, 1) := by decide +kernel
theorem d_S_divorce_65 : decode c_S_divorce 65 = .ok (.ireturn, 1) := by decide +kernel
theorem d_S_spouse_0 : decode c_S_spouse 0 = .ok (.aload_n 0, 1) := by decide +kernel
theorem d_S_spouse_1 : decode c_S_spouse 1 = .ok (.iload_n 1, 1) := by decide +kernel
theorem d_S_spouse_2 : decode c_S_spouse 2 = .ok (.invokevirtual 62, 3) := by decide +kernel
theorem d_S_spouse_5 : decode c_S_spouse 5 = .ok (.aload_n 0, 1) := by decide +kernel
theorem d_S_spouse_6 : decode c_S_spouse 6 = .ok (.getfield 12, 3) := by decide +kernel
theorem d_S_spouse_9 : decode c_S_spouse 9 = .ok (.getfield 84, 3) := by decide +kernel
theorem d_S_spouse_12 : decode c_S_spouse 12 = .ok (.iload_n 1, 1) := by decide +kernel
theorem d_S_spouse_13 : decode c_S_spouse 13 = .ok (.iaload, 1) := by decide +kernel
theorem d_S_spouse_14 : decode c_S_spouse 14 = .ok (.ireturn, 1) := by decide +kernel
theorem d_S_dies_0 : decode c_S_dies 0 = .ok (.aload_n 0, 1) := by decide +kernel
theorem d_S_dies_1 : decode c_S_dies 1 = .ok (.iload_n 1, 1) := by decide +kernel
theorem d_S_dies_2 : decode c_S_dies 2 = .ok (.invokevirtual 62, 3) := by decide +kernel
theorem d_S_dies_5 : decode c_S_dies 5 = .ok (.iload_n 2, 1) := by decide +kernel
theorem d_S_dies_6 : decode c_S_dies 6 = .ok (.ifCond .lt 10, 3) := by decide +kernel
theorem d_S_dies_9 : decode c_S_dies 9 = .ok (.iload_n 2, 1) := by decide +kernel
theorem d_S_dies_10 : decode c_S_dies 10 = .ok (.sipush 999, 3) := by decide +kernel
theorem d_S_dies_13 : decode c_S_dies 13 = .ok (.if_icmp .le 13, 3) := by decide +kernel
theorem d_S_dies_16 : decode c_S_dies 16 = .ok (.new 73, 3) := by decide +kernel
theorem d_S_dies_19 : decode c_S_dies 19 = .ok (.dup, 1) := by decide +kernel
theorem d_S_dies_20 : decode c_S_dies 20 = .ok (.ldc 90, 2) := by decide +kernel
theorem d_S_dies_22 : decode c_S_dies 22 = .ok (.invokespecial 77, 3) := by decide +kernel
theorem d_S_dies_25 : decode c_S_dies 25 = .ok (.athrow, 1) := by decide +kernel
theorem d_S_dies_26 : decode c_S_dies 26 = .ok (.aload_n 0, 1) := by decide +kernel
theorem d_S_dies_27 : decode c_S_dies 27 = .ok (.getfield 12, 3) := by decide +kernel
theorem d_S_dies_30 : decode c_S_dies 30 = .ok (.iload_n 1, 1) := by decide +kernel
theorem d_S_dies_31 : decode c_S_dies 31 = .ok (.invokevirtual 87, 3) := by decide +kernel
theorem d_S_dies_34 : decode c_S_dies 34 = .ok (.ifCond .eq 13, 3) := by decide +kernel
theorem d_S_dies_37 : decode c_S_dies 37 = .ok (.new 51, 3) := by decide +kernel
theorem d_S_dies_40 : decode c_S_dies 40 = .ok (.dup, 1) := by decide +kernel
theorem d_S_dies_41 : decode c_S_dies 41 = .ok (.ldc 92, 2) := by decide +kernel
theorem d_S_dies_43 : decode c_S_dies 43 = .ok (.invokespecial 55, 3) := by decide +kernel
theorem d_S_dies_46 : decode c_S_dies 46 = .ok (.athrow, 1) := by decide +kernel
theorem d_S_dies_47 : decode c_S_dies 47 = .ok (.aload_n 0, 1) := by decide +kernel
theorem d_S_dies_48 : decode c_S_dies 48 = .ok (.getfield 12, 3) := by decide +kernel
theorem d_S_dies_51 : decode c_S_dies 51 = .ok (.getfield 94, 3) := by decide +kernel
theorem d_S_dies_54 : decode c_S_dies 54 = .ok (.iload_n 1, 1) := by decide +kernel
theorem d_S_dies_55 : decode c_S_dies 55 = .ok (.iload_n 2, 1) := by decide +kernel
theorem d_S_dies_56 : decode c_S_dies 56 = .ok (.iastore, 1) := by decide +kernel
theorem d_S_dies_57 : decode c_S_dies 57 = .ok (.return_, 1) := by decide +kernel
theorem d_S_exclude_0 : decode c_S_exclude 0 = .ok (.aload_n 0, 1) := by decide +kernel
theorem d_S_exclude_1 : decode c_S_exclude 1 = .ok (.iload_n 1, 1) := by decide +kernel
theorem d_S_exclude_2 : decode c_S_exclude 2 = .ok (.invokevirtual 62, 3) := by decide +kernel
theorem d_S_exclude_5 : decode c_S_exclude 5 = .ok (.aload_n 0, 1) := by decide +kernel
theorem d_S_exclude_6 : decode c_S_exclude 6 = .ok (.iload_n 2, 1) := by decide +kernel
theorem d_S_exclude_7 : decode c_S_exclude 7 = .ok (.invokevirtual 62, 3) := by decide +kernel
theorem d_S_exclude_10 : decode c_S_exclude 10 = .ok (.aload_n 0, 1) := by decide +kernel
theorem d_S_exclude_11 : decode c_S_exclude 11 = .ok (.getfield 12, 3) := by decide +kernel
theorem d_S_exclude_14 : decode c_S_exclude 14 = .ok (.iload_n 1, 1) := by decide +kernel
theorem d_S_exclude_15 : decode c_S_exclude 15 = .ok (.iload_n 2, 1) := by decide +kernel
theorem d_S_exclude_16 : decode c_S_exclude 16 = .ok (.invokevirtual 97, 3) := by decide +kernel
theorem d_S_exclude_19 : decode c_S_exclude 19 = .ok (.iload_n 3, 1) := by decide +kernel
theorem d_S_exclude_20 : decode c_S_exclude 20 = .ok (.if_icmp .ne 5, 3) := by decide +kernel
theorem d_S_exclude_23 : decode c_S_exclude 23 = .ok (.iconst 0, 1) := by decide +kernel
theorem d_S_exclude_24 : decode c_S_exclude 24 = .ok (.ireturn, 1) := by decide +kernel
theorem d_S_exclude_25 : decode c_S_exclude 25 = .ok (.aload_n 0, 1) := by decide +kernel
theorem d_S_exclude_26 : decode c_S_exclude 26 = .ok (.getfield 12, 3) := by decide +kernel
theorem d_S_exclude_29 : decode c_S_exclude 29 = .ok (.iload_n 1, 1) := by decide +kernel
theorem d_S_exclude_30 : decode c_S_exclude 30 = .ok (.iload_n 2, 1) := by decide +kernel
theorem d_S_exclude_31 : decode c_S_exclude 31 = .ok (.iload_n 3, 1) := by decide +kernel
theorem d_S_exclude_32 : decode c_S_exclude 32 = .ok (.invokevirtual 101, 3) := by decide +kernel
theorem d_S_exclude_35 : decode c_S_exclude 35 = .ok (.iconst 1, 1) := by decide +kernel
theorem d_S_exclude_36 : decode c_S_exclude 36 = .ok (.ireturn, 1) := by decide +kernel
theorem d_S_gift_0 : decode c_S_gift 0 = .ok (.aload_n 0, 1) := by decide +kernel
theorem d_S_gift_1 : decode c_S_gift 1 = .ok (.iload_n 1, 1) := by decide +kernel
theorem d_S_gift_2 : decode c_S_gift 2 = .ok (.invokevirtual 62, 3) := by decide +kernel
theorem d_S_gift_5 : decode c_S_gift 5 = .ok (.aload_n 0, 1) := by decide +kernel
theorem d_S_gift_6 : decode c_S_gift 6 = .ok (.iload_n 2, 1) := by decide +kernel
theorem d_S_gift_7 : decode c_S_gift 7 = .ok (.invokevirtual 62, 3) := by decide +kernel
theorem d_S_gift_10 : decode c_S_gift 10 = .ok (.aload_n 0, 1) := by decide +kernel
theorem d_S_gift_11 : decode c_S_gift 11 = .ok (.getfield 12, 3) := by decide +kernel
theorem d_S_gift_14 : decode c_S_gift 14 = .ok (.iload_n 1, 1) := by decide +kernel
theorem d_S_gift_15 : decode c_S_gift 15 = .ok (.iload_n 2, 1) := by decide +kernel
theorem d_S_gift_16 : decode c_S_gift 16 = .ok (.invokevirtual 105, 3) := by decide +kernel
theorem d_S_gift_19 : decode c_S_gift 19 = .ok (.ifCond .ne 13, 3) := by decide +kernel
theorem d_S_gift_22 : decode c_S_gift 22 = .ok (.new 73, 3) := by decide +kernel
theorem d_S_gift_25 : decode c_S_gift 25 = .ok (.dup, 1) := by decide +kernel
theorem d_S_gift_26 : decode c_S_gift 26 = .ok (.ldc 108, 2) := by decide +kernel
theorem d_S_gift_28 : decode c_S_gift 28 = .ok (.invokespecial 77, 3) := by decide +kernel
theorem d_S_gift_31 : decode c_S_gift 31 = .ok (.athrow, 1) := by decide +kernel
theorem d_S_gift_32 : decode c_S_gift 32 = .ok (.iload_n 3, 1) := by decide +kernel
theorem d_S_gift_33 : decode c_S_gift 33 = .ok (.iconst 1, 1) := by decide +kernel
theorem d_S_gift_34 : decode c_S_gift 34 = .ok (.if_icmp .lt 9, 3) := by decide +kernel
theorem d_S_gift_37 : decode c_S_gift 37 = .ok (.iload_n 3, 1) := by decide +kernel
theorem d_S_gift_38 : decode c_S_gift 38 = .ok (.ldc 110, 2) := by decide +kernel
theorem d_S_gift_40 : decode c_S_gift 40 = .ok (.if_icmp .le 13, 3) := by decide +kernel
theorem d_S_gift_43 : decode c_S_gift 43 = .ok (.new 73, 3) := by decide +kernel
theorem d_S_gift_46 : decode c_S_gift 46 = .ok (.dup, 1) := by decide +kernel
theorem d_S_gift_47 : decode c_S_gift 47 = .ok (.ldc 111, 2) := by decide +kernel
theorem d_S_gift_49 : decode c_S_gift 49 = .ok (.invokespecial 77, 3) := by decide +kernel
theorem d_S_gift_52 : decode c_S_gift 52 = .ok (.athrow, 1) := by decide +kernel
theorem d_S_gift_53 : decode c_S_gift 53 = .ok (.aload_n 0, 1) := by decide +kernel
theorem d_S_gift_54 : decode c_S_gift 54 = .ok (.getfield 12, 3) := by decide +kernel
theorem d_S_gift_57 : decode c_S_gift 57 = .ok (.getfield 113, 3) := by decide +kernel
theorem d_S_gift_60 : decode c_S_gift 60 = .ok (.iload_n 1, 1) := by decide +kernel
theorem d_S_gift_61 : decode c_S_gift 61 = .ok (.aaload, 1) := by decide +kernel
theorem d_S_gift_62 : decode c_S_gift 62 = .ok (.iload_n 2, 1) := by decide +kernel
theorem d_S_gift_63 : decode c_S_gift 63 = .ok (.iaload, 1) := by decide +kernel
theorem d_S_gift_64 : decode c_S_gift 64 = .ok (.iload_n 3, 1) := by decide +kernel
theorem d_S_gift_65 : decode c_S_gift 65 = .ok (.iadd, 1) := by decide +kernel
theorem d_S_gift_66 : decode c_S_gift 66 = .ok (.istore 4, 2) := by decide +kernel
theorem d_S_gift_68 : decode c_S_gift 68 = .ok (.iload 4, 2) := by decide +kernel
theorem d_S_gift_70 : decode c_S_gift 70 = .ok (.ldc 110, 2) := by decide +kernel
theorem d_S_gift_72 : decode c_S_gift 72 = .ok (.if_icmp .le 13, 3) := by decide +kernel
theorem d_S_gift_75 : decode c_S_gift 75 = .ok (.new 51, 3) := by decide +kernel
theorem d_S_gift_78 : decode c_S_gift 78 = .ok (.dup, 1) := by decide +kernel
theorem d_S_gift_79 : decode c_S_gift 79 = .ok (.ldc 117, 2) := by decide +kernel
theorem d_S_gift_81 : decode c_S_gift 81 = .ok (.invokespecial 55, 3) := by decide +kernel
theorem d_S_gift_84 : decode c_S_gift 84 = .ok (.athrow, 1) := by decide +kernel
theorem d_S_gift_85 : decode c_S_gift 85 = .ok (.aload_n 0, 1) := by decide +kernel
theorem d_S_gift_86 : decode c_S_gift 86 = .ok (.getfield 12, 3) := by decide +kernel
theorem d_S_gift_89 : decode c_S_gift 89 = .ok (.getfield 113, 3) := by decide +kernel
theorem d_S_gift_92 : decode c_S_gift 92 = .ok (.iload_n 1, 1) := by decide +kernel
theorem d_S_gift_93 : decode c_S_gift 93 = .ok (.aaload, 1) := by decide +kernel
theorem d_S_gift_94 : decode c_S_gift 94 = .ok (.iload_n 2, 1) := by decide +kernel
theorem d_S_gift_95 : decode c_S_gift 95 = .ok (.iload 4, 2) := by decide +kernel
theorem d_S_gift_97 : decode c_S_gift 97 = .ok (.iastore, 1) := by decide +kernel
theorem d_S_gift_98 : decode c_S_gift 98 = .ok (.iload 4, 2) := by decide +kernel
theorem d_S_gift_100 : decode c_S_gift 100 = .ok (.ireturn, 1) := by decide +kernel
theorem d_S_estate_0 : decode c_S_estate 0 = .ok (.aload_n 0, 1) := by decide +kernel
theorem d_S_estate_1 : decode c_S_estate 1 = .ok (.iload_n 1, 1) := by decide +kernel
theorem d_S_estate_2 : decode c_S_estate 2 = .ok (.invokevirtual 62, 3) := by decide +kernel
theorem d_S_estate_5 : decode c_S_estate 5 = .ok (.iload_n 2, 1) := by decide +kernel
theorem d_S_estate_6 : decode c_S_estate 6 = .ok (.ifCond .lt 9, 3) := by decide +kernel
theorem d_S_estate_9 : decode c_S_estate 9 = .ok (.iload_n 2, 1) := by decide +kernel
theorem d_S_estate_10 : decode c_S_estate 10 = .ok (.ldc 110, 2) := by decide +kernel
theorem d_S_estate_12 : decode c_S_estate 12 = .ok (.if_icmp .le 13, 3) := by decide +kernel
theorem d_S_estate_15 : decode c_S_estate 15 = .ok (.new 73, 3) := by decide +kernel
theorem d_S_estate_18 : decode c_S_estate 18 = .ok (.dup, 1) := by decide +kernel
theorem d_S_estate_19 : decode c_S_estate 19 = .ok (.ldc 119, 2) := by decide +kernel
theorem d_S_estate_21 : decode c_S_estate 21 = .ok (.invokespecial 77, 3) := by decide +kernel
theorem d_S_estate_24 : decode c_S_estate 24 = .ok (.athrow, 1) := by decide +kernel
theorem d_S_estate_25 : decode c_S_estate 25 = .ok (.aload_n 0, 1) := by decide +kernel
theorem d_S_estate_26 : decode c_S_estate 26 = .ok (.getfield 12, 3) := by decide +kernel
theorem d_S_estate_29 : decode c_S_estate 29 = .ok (.getfield 121, 3) := by decide +kernel
theorem d_S_estate_32 : decode c_S_estate 32 = .ok (.iload_n 1, 1) := by decide +kernel
theorem d_S_estate_33 : decode c_S_estate 33 = .ok (.iload_n 2, 1) := by decide +kernel
theorem d_S_estate_34 : decode c_S_estate 34 = .ok (.iastore, 1) := by decide +kernel
theorem d_S_estate_35 : decode c_S_estate 35 = .ok (.return_, 1) := by decide +kernel
theorem d_S_heirs_0 : decode c_S_heirs 0 = .ok (.aload_n 0, 1) := by decide +kernel
theorem d_S_heirs_1 : decode c_S_heirs 1 = .ok (.iload_n 1, 1) := by decide +kernel
theorem d_S_heirs_2 : decode c_S_heirs 2 = .ok (.invokevirtual 62, 3) := by decide +kernel
theorem d_S_heirs_5 : decode c_S_heirs 5 = .ok (.aload_n 0, 1) := by decide +kernel
theorem d_S_heirs_6 : decode c_S_heirs 6 = .ok (.iload_n 1, 1) := by decide +kernel
theorem d_S_heirs_7 : decode c_S_heirs 7 = .ok (.invokevirtual 124, 3) := by decide +kernel
theorem d_S_heirs_10 : decode c_S_heirs 10 = .ok (.aload_n 0, 1) := by decide +kernel
theorem d_S_heirs_11 : decode c_S_heirs 11 = .ok (.getfield 21, 3) := by decide +kernel
theorem d_S_heirs_14 : decode c_S_heirs 14 = .ok (.iload_n 1, 1) := by decide +kernel
theorem d_S_heirs_15 : decode c_S_heirs 15 = .ok (.invokevirtual 127, 3) := by decide +kernel
theorem d_S_heirs_18 : decode c_S_heirs 18 = .ok (.aload_n 0, 1) := by decide +kernel
theorem d_S_heirs_19 : decode c_S_heirs 19 = .ok (.getfield 30, 3) := by decide +kernel
theorem d_S_heirs_22 : decode c_S_heirs 22 = .ok (.lconst 1, 1) := by decide +kernel
theorem d_S_heirs_23 : decode c_S_heirs 23 = .ok (.invokevirtual 130, 3) := by decide +kernel
theorem d_S_heirs_26 : decode c_S_heirs 26 = .ok (.aload_n 0, 1) := by decide +kernel
theorem d_S_heirs_27 : decode c_S_heirs 27 = .ok (.getfield 30, 3) := by decide +kernel
theorem d_S_heirs_30 : decode c_S_heirs 30 = .ok (.invokevirtual 134, 3) := by decide +kernel
theorem d_S_heirs_33 : decode c_S_heirs 33 = .ok (.ireturn, 1) := by decide +kernel
theorem d_S_heir_0 : decode c_S_heir 0 = .ok (.aload_n 0, 1) := by decide +kernel
theorem d_S_heir_1 : decode c_S_heir 1 = .ok (.iload_n 1, 1) := by decide +kernel
theorem d_S_heir_2 : decode c_S_heir 2 = .ok (.invokevirtual 62, 3) := by decide +kernel
theorem d_S_heir_5 : decode c_S_heir 5 = .ok (.aload_n 0, 1) := by decide +kernel
theorem d_S_heir_6 : decode c_S_heir 6 = .ok (.iload_n 1, 1) := by decide +kernel
theorem d_S_heir_7 : decode c_S_heir 7 = .ok (.invokevirtual 124, 3) := by decide +kernel
theorem d_S_heir_10 : decode c_S_heir 10 = .ok (.aload_n 0, 1) := by decide +kernel
theorem d_S_heir_11 : decode c_S_heir 11 = .ok (.getfield 21, 3) := by decide +kernel
theorem d_S_heir_14 : decode c_S_heir 14 = .ok (.iload_n 1, 1) := by decide +kernel
theorem d_S_heir_15 : decode c_S_heir 15 = .ok (.invokevirtual 127, 3) := by decide +kernel
theorem d_S_heir_18 : decode c_S_heir 18 = .ok (.aload_n 0, 1) := by decide +kernel
theorem d_S_heir_19 : decode c_S_heir 19 = .ok (.getfield 30, 3) := by decide +kernel
theorem d_S_heir_22 : decode c_S_heir 22 = .ok (.lconst 1, 1) := by decide +kernel
theorem d_S_heir_23 : decode c_S_heir 23 = .ok (.invokevirtual 130, 3) := by decide +kernel
theorem d_S_heir_26 : decode c_S_heir 26 = .ok (.aload_n 0, 1) := by decide +kernel
theorem d_S_heir_27 : decode c_S_heir 27 = .ok (.getfield 30, 3) := by decide +kernel
theorem d_S_heir_30 : decode c_S_heir 30 = .ok (.iload_n 2, 1) := by decide +kernel
theorem d_S_heir_31 : decode c_S_heir 31 = .ok (.invokevirtual 138, 3) := by decide +kernel
theorem d_S_heir_34 : decode c_S_heir 34 = .ok (.ireturn, 1) := by decide +kernel
theorem d_S_share_0 : decode c_S_share 0 = .ok (.aload_n 0, 1) := by decide +kernel
theorem d_S_share_1 : decode c_S_share 1 = .ok (.iload_n 1, 1) := by decide +kernel
theorem d_S_share_2 : decode c_S_share 2 = .ok (.invokevirtual 62, 3) := by decide +kernel
theorem d_S_share_5 : decode c_S_share 5 = .ok (.aload_n 0, 1) := by decide +kernel
theorem d_S_share_6 : decode c_S_share 6 = .ok (.iload_n 2, 1) := by decide +kernel
theorem d_S_share_7 : decode c_S_share 7 = .ok (.invokevirtual 62, 3) := by decide +kernel
theorem d_S_share_10 : decode c_S_share 10 = .ok (.aload_n 0, 1) := by decide +kernel
theorem d_S_share_11 : decode c_S_share 11 = .ok (.iload_n 1, 1) := by decide +kernel
theorem d_S_share_12 : decode c_S_share 12 = .ok (.invokevirtual 124, 3) := by decide +kernel
theorem d_S_share_15 : decode c_S_share 15 = .ok (.aload_n 0, 1) := by decide +kernel
theorem d_S_share_16 : decode c_S_share 16 = .ok (.getfield 21, 3) := by decide +kernel
theorem d_S_share_19 : decode c_S_share 19 = .ok (.iload_n 1, 1) := by decide +kernel
theorem d_S_share_20 : decode c_S_share 20 = .ok (.invokevirtual 127, 3) := by decide +kernel
theorem d_S_share_23 : decode c_S_share 23 = .ok (.aload_n 0, 1) := by decide +kernel
theorem d_S_share_24 : decode c_S_share 24 = .ok (.getfield 30, 3) := by decide +kernel
theorem d_S_share_27 : decode c_S_share 27 = .ok (.lconst 1, 1) := by decide +kernel
theorem d_S_share_28 : decode c_S_share 28 = .ok (.invokevirtual 130, 3) := by decide +kernel
theorem d_S_share_31 : decode c_S_share 31 = .ok (.aload_n 0, 1) := by decide +kernel
theorem d_S_share_32 : decode c_S_share 32 = .ok (.getfield 30, 3) := by decide +kernel
theorem d_S_share_35 : decode c_S_share 35 = .ok (.iload_n 2, 1) := by decide +kernel
theorem d_S_share_36 : decode c_S_share 36 = .ok (.invokevirtual 142, 3) := by decide +kernel
theorem d_S_share_39 : decode c_S_share 39 = .ok (.lreturn, 1) := by decide +kernel
theorem d_S_order_0 : decode c_S_order 0 = .ok (.aload_n 0, 1) := by decide +kernel
theorem d_S_order_1 : decode c_S_order 1 = .ok (.iload_n 1, 1) := by decide +kernel
theorem d_S_order_2 : decode c_S_order 2 = .ok (.invokevirtual 62, 3) := by decide +kernel
theorem d_S_order_5 : decode c_S_order 5 = .ok (.aload_n 0, 1) := by decide +kernel
theorem d_S_order_6 : decode c_S_order 6 = .ok (.iload_n 1, 1) := by decide +kernel
theorem d_S_order_7 : decode c_S_order 7 = .ok (.invokevirtual 124, 3) := by decide +kernel
theorem d_S_order_10 : decode c_S_order 10 = .ok (.aload_n 0, 1) := by decide +kernel
theorem d_S_order_11 : decode c_S_order 11 = .ok (.getfield 21, 3) := by decide +kernel
theorem d_S_order_14 : decode c_S_order 14 = .ok (.iload_n 1, 1) := by decide +kernel
theorem d_S_order_15 : decode c_S_order 15 = .ok (.invokevirtual 127, 3) := by decide +kernel
theorem d_S_order_18 : decode c_S_order 18 = .ok (.aload_n 0, 1) := by decide +kernel
theorem d_S_order_19 : decode c_S_order 19 = .ok (.getfield 21, 3) := by decide +kernel
theorem d_S_order_22 : decode c_S_order 22 = .ok (.getfield 146, 3) := by decide +kernel
theorem d_S_order_25 : decode c_S_order 25 = .ok (.ireturn, 1) := by decide +kernel
theorem d_S_stem_0 : decode c_S_stem 0 = .ok (.aload_n 0, 1) := by decide +kernel
theorem d_S_stem_1 : decode c_S_stem 1 = .ok (.iload_n 1, 1) := by decide +kernel
theorem d_S_stem_2 : decode c_S_stem 2 = .ok (.invokevirtual 62, 3) := by decide +kernel
theorem d_S_stem_5 : decode c_S_stem 5 = .ok (.aload_n 0, 1) := by decide +kernel
theorem d_S_stem_6 : decode c_S_stem 6 = .ok (.iload_n 2, 1) := by decide +kernel
theorem d_S_stem_7 : decode c_S_stem 7 = .ok (.invokevirtual 62, 3) := by decide +kernel
theorem d_S_stem_10 : decode c_S_stem 10 = .ok (.aload_n 0, 1) := by decide +kernel
theorem d_S_stem_11 : decode c_S_stem 11 = .ok (.iload_n 1, 1) := by decide +kernel
theorem d_S_stem_12 : decode c_S_stem 12 = .ok (.invokevirtual 124, 3) := by decide +kernel
theorem d_S_stem_15 : decode c_S_stem 15 = .ok (.aload_n 0, 1) := by decide +kernel
theorem d_S_stem_16 : decode c_S_stem 16 = .ok (.getfield 21, 3) := by decide +kernel
theorem d_S_stem_19 : decode c_S_stem 19 = .ok (.iload_n 1, 1) := by decide +kernel
theorem d_S_stem_20 : decode c_S_stem 20 = .ok (.invokevirtual 127, 3) := by decide +kernel
theorem d_S_stem_23 : decode c_S_stem 23 = .ok (.aload_n 0, 1) := by decide +kernel
theorem d_S_stem_24 : decode c_S_stem 24 = .ok (.getfield 21, 3) := by decide +kernel
theorem d_S_stem_27 : decode c_S_stem 27 = .ok (.iload_n 2, 1) := by decide +kernel
theorem d_S_stem_28 : decode c_S_stem 28 = .ok (.invokevirtual 149, 3) := by decide +kernel
theorem d_S_stem_31 : decode c_S_stem 31 = .ok (.ireturn, 1) := by decide +kernel
theorem d_S_settle_0 : decode c_S_settle 0 = .ok (.aload_n 0, 1) := by decide +kernel
theorem d_S_settle_1 : decode c_S_settle 1 = .ok (.getfield 39, 3) := by decide +kernel
theorem d_S_settle_4 : decode c_S_settle 4 = .ok (.invokevirtual 152, 3) := by decide +kernel
theorem d_S_settle_7 : decode c_S_settle 7 = .ok (.ireturn, 1) := by decide +kernel
theorem d_S_paid_0 : decode c_S_paid 0 = .ok (.aload_n 0, 1) := by decide +kernel
theorem d_S_paid_1 : decode c_S_paid 1 = .ok (.iload_n 1, 1) := by decide +kernel
theorem d_S_paid_2 : decode c_S_paid 2 = .ok (.invokevirtual 62, 3) := by decide +kernel
theorem d_S_paid_5 : decode c_S_paid 5 = .ok (.aload_n 0, 1) := by decide +kernel
theorem d_S_paid_6 : decode c_S_paid 6 = .ok (.getfield 39, 3) := by decide +kernel
theorem d_S_paid_9 : decode c_S_paid 9 = .ok (.getfield 155, 3) := by decide +kernel
theorem d_S_paid_12 : decode c_S_paid 12 = .ok (.iload_n 1, 1) := by decide +kernel
theorem d_S_paid_13 : decode c_S_paid 13 = .ok (.aaload, 1) := by decide +kernel
theorem d_S_paid_14 : decode c_S_paid 14 = .ok (.aload_n 0, 1) := by decide +kernel
theorem d_S_paid_15 : decode c_S_paid 15 = .ok (.iload_n 2, 1) := by decide +kernel
theorem d_S_paid_16 : decode c_S_paid 16 = .ok (.invokevirtual 159, 3) := by decide +kernel
theorem d_S_paid_19 : decode c_S_paid 19 = .ok (.laload, 1) := by decide +kernel
theorem d_S_paid_20 : decode c_S_paid 20 = .ok (.lreturn, 1) := by decide +kernel
theorem d_S_total_0 : decode c_S_total 0 = .ok (.aload_n 0, 1) := by decide +kernel
theorem d_S_total_1 : decode c_S_total 1 = .ok (.iload_n 1, 1) := by decide +kernel
theorem d_S_total_2 : decode c_S_total 2 = .ok (.invokevirtual 62, 3) := by decide +kernel
theorem d_S_total_5 : decode c_S_total 5 = .ok (.aload_n 0, 1) := by decide +kernel
theorem d_S_total_6 : decode c_S_total 6 = .ok (.getfield 39, 3) := by decide +kernel
theorem d_S_total_9 : decode c_S_total 9 = .ok (.getfield 162, 3) := by decide +kernel
theorem d_S_total_12 : decode c_S_total 12 = .ok (.iload_n 1, 1) := by decide +kernel
theorem d_S_total_13 : decode c_S_total 13 = .ok (.laload, 1) := by decide +kernel
theorem d_S_total_14 : decode c_S_total 14 = .ok (.lreturn, 1) := by decide +kernel
theorem d_S_got_0 : decode c_S_got 0 = .ok (.aload_n 0, 1) := by decide +kernel
theorem d_S_got_1 : decode c_S_got 1 = .ok (.getfield 39, 3) := by decide +kernel
theorem d_S_got_4 : decode c_S_got 4 = .ok (.getfield 166, 3) := by decide +kernel
theorem d_S_got_7 : decode c_S_got 7 = .ok (.aload_n 0, 1) := by decide +kernel
theorem d_S_got_8 : decode c_S_got 8 = .ok (.iload_n 1, 1) := by decide +kernel
theorem d_S_got_9 : decode c_S_got 9 = .ok (.invokevirtual 159, 3) := by decide +kernel
theorem d_S_got_12 : decode c_S_got 12 = .ok (.laload, 1) := by decide +kernel
theorem d_S_got_13 : decode c_S_got 13 = .ok (.lreturn, 1) := by decide +kernel
theorem d_S_requirePerson_0 : decode c_S_requirePerson 0 = .ok (.iload_n 1, 1) := by decide +kernel
theorem d_S_requirePerson_1 : decode c_S_requirePerson 1 = .ok (.ifCond .lt 14, 3) := by decide +kernel
theorem d_S_requirePerson_4 : decode c_S_requirePerson 4 = .ok (.iload_n 1, 1) := by decide +kernel
theorem d_S_requirePerson_5 : decode c_S_requirePerson 5 = .ok (.aload_n 0, 1) := by decide +kernel
theorem d_S_requirePerson_6 : decode c_S_requirePerson 6 = .ok (.getfield 12, 3) := by decide +kernel
theorem d_S_requirePerson_9 : decode c_S_requirePerson 9 = .ok (.getfield 43, 3) := by decide +kernel
theorem d_S_requirePerson_12 : decode c_S_requirePerson 12 = .ok (.if_icmp .lt 13, 3) := by decide +kernel
theorem d_S_requirePerson_15 : decode c_S_requirePerson 15 = .ok (.new 73, 3) := by decide +kernel
theorem d_S_requirePerson_18 : decode c_S_requirePerson 18 = .ok (.dup, 1) := by decide +kernel
theorem d_S_requirePerson_19 : decode c_S_requirePerson 19 = .ok (.ldc 169, 2) := by decide +kernel
theorem d_S_requirePerson_21 : decode c_S_requirePerson 21 = .ok (.invokespecial 77, 3) := by decide +kernel
theorem d_S_requirePerson_24 : decode c_S_requirePerson 24 = .ok (.athrow, 1) := by decide +kernel
theorem d_S_requirePerson_25 : decode c_S_requirePerson 25 = .ok (.return_, 1) := by decide +kernel
theorem d_S_requireDead_0 : decode c_S_requireDead 0 = .ok (.aload_n 0, 1) := by decide +kernel
theorem d_S_requireDead_1 : decode c_S_requireDead 1 = .ok (.getfield 12, 3) := by decide +kernel
theorem d_S_requireDead_4 : decode c_S_requireDead 4 = .ok (.iload_n 1, 1) := by decide +kernel
theorem d_S_requireDead_5 : decode c_S_requireDead 5 = .ok (.invokevirtual 87, 3) := by decide +kernel
theorem d_S_requireDead_8 : decode c_S_requireDead 8 = .ok (.ifCond .ne 13, 3) := by decide +kernel
theorem d_S_requireDead_11 : decode c_S_requireDead 11 = .ok (.new 51, 3) := by decide +kernel
theorem d_S_requireDead_14 : decode c_S_requireDead 14 = .ok (.dup, 1) := by decide +kernel
theorem d_S_requireDead_15 : decode c_S_requireDead 15 = .ok (.ldc 171, 2) := by decide +kernel
theorem d_S_requireDead_17 : decode c_S_requireDead 17 = .ok (.invokespecial 55, 3) := by decide +kernel
theorem d_S_requireDead_20 : decode c_S_requireDead 20 = .ok (.athrow, 1) := by decide +kernel
theorem d_S_requireDead_21 : decode c_S_requireDead 21 = .ok (.return_, 1) := by decide +kernel
theorem d_S_requireParents_0 : decode c_S_requireParents 0 = .ok (.iload_n 0, 1) := by decide +kernel
theorem d_S_requireParents_1 : decode c_S_requireParents 1 = .ok (.iconst (-1), 1) := by decide +kernel
theorem d_S_requireParents_2 : decode c_S_requireParents 2 = .ok (.if_icmp .lt 18, 3) := by decide +kernel
theorem d_S_requireParents_5 : decode c_S_requireParents 5 = .ok (.iload_n 0, 1) := by decide +kernel
theorem d_S_requireParents_6 : decode c_S_requireParents 6 = .ok (.iload_n 2, 1) := by decide +kernel
theorem d_S_requireParents_7 : decode c_S_requireParents 7 = .ok (.if_icmp .ge 13, 3) := by decide +kernel
theorem d_S_requireParents_10 : decode c_S_requireParents 10 = .ok (.iload_n 1, 1) := by decide +kernel
theorem d_S_requireParents_11 : decode c_S_requireParents 11 = .ok (.iconst (-1), 1) := by decide +kernel
theorem d_S_requireParents_12 : decode c_S_requireParents 12 = .ok (.if_icmp .lt 8, 3) := by decide +kernel
theorem d_S_requireParents_15 : decode c_S_requireParents 15 = .ok (.iload_n 1, 1) := by decide +kernel
theorem d_S_requireParents_16 : decode c_S_requireParents 16 = .ok (.iload_n 2, 1) := by decide +kernel
theorem d_S_requireParents_17 : decode c_S_requireParents 17 = .ok (.if_icmp .lt 13, 3) := by decide +kernel
theorem d_S_requireParents_20 : decode c_S_requireParents 20 = .ok (.new 73, 3) := by decide +kernel
theorem d_S_requireParents_23 : decode c_S_requireParents 23 = .ok (.dup, 1) := by decide +kernel
theorem d_S_requireParents_24 : decode c_S_requireParents 24 = .ok (.ldc 173, 2) := by decide +kernel
theorem d_S_requireParents_26 : decode c_S_requireParents 26 = .ok (.invokespecial 77, 3) := by decide +kernel
theorem d_S_requireParents_29 : decode c_S_requireParents 29 = .ok (.athrow, 1) := by decide +kernel
theorem d_S_requireParents_30 : decode c_S_requireParents 30 = .ok (.iload_n 0, 1) := by decide +kernel
theorem d_S_requireParents_31 : decode c_S_requireParents 31 = .ok (.iload_n 1, 1) := by decide +kernel
theorem d_S_requireParents_32 : decode c_S_requireParents 32 = .ok (.if_icmp .ne 18, 3) := by decide +kernel
theorem d_S_requireParents_35 : decode c_S_requireParents 35 = .ok (.iload_n 0, 1) := by decide +kernel
theorem d_S_requireParents_36 : decode c_S_requireParents 36 = .ok (.iconst (-1), 1) := by decide +kernel
theorem d_S_requireParents_37 : decode c_S_requireParents 37 = .ok (.if_icmp .eq 13, 3) := by decide +kernel
theorem d_S_requireParents_40 : decode c_S_requireParents 40 = .ok (.new 73, 3) := by decide +kernel
theorem d_S_requireParents_43 : decode c_S_requireParents 43 = .ok (.dup, 1) := by decide +kernel
theorem d_S_requireParents_44 : decode c_S_requireParents 44 = .ok (.ldc 175, 2) := by decide +kernel
theorem d_S_requireParents_46 : decode c_S_requireParents 46 = .ok (.invokespecial 77, 3) := by decide +kernel
theorem d_S_requireParents_49 : decode c_S_requireParents 49 = .ok (.athrow, 1) := by decide +kernel
theorem d_S_requireParents_50 : decode c_S_requireParents 50 = .ok (.return_, 1) := by decide +kernel
theorem d_S_placeOf_0 : decode c_S_placeOf 0 = .ok (.iload_n 1, 1) := by decide +kernel
theorem d_S_placeOf_1 : decode c_S_placeOf 1 = .ok (.iconst (-1), 1) := by decide +kernel
theorem d_S_placeOf_2 : decode c_S_placeOf 2 = .ok (.if_icmp .ne 6, 3) := by decide +kernel
theorem d_S_placeOf_5 : decode c_S_placeOf 5 = .ok (.bipush 20, 2) := by decide +kernel
theorem d_S_placeOf_7 : decode c_S_placeOf 7 = .ok (.ireturn, 1) := by decide +kernel
theorem d_S_placeOf_8 : decode c_S_placeOf 8 = .ok (.aload_n 0, 1) := by decide +kernel
theorem d_S_placeOf_9 : decode c_S_placeOf 9 = .ok (.iload_n 1, 1) := by decide +kernel
theorem d_S_placeOf_10 : decode c_S_placeOf 10 = .ok (.invokevirtual 62, 3) := by decide +kernel
theorem d_S_placeOf_13 : decode c_S_placeOf 13 = .ok (.iload_n 1, 1) := by decide +kernel
theorem d_S_placeOf_14 : decode c_S_placeOf 14 = .ok (.ireturn, 1) := by decide +kernel
theorem d_F_init_0 : decode c_F_init 0 = .ok (.aload_n 0, 1) := by decide +kernel
theorem d_F_init_1 : decode c_F_init 1 = .ok (.invokespecial 3, 3) := by decide +kernel
theorem d_F_init_4 : decode c_F_init 4 = .ok (.aload_n 0, 1) := by decide +kernel
theorem d_F_init_5 : decode c_F_init 5 = .ok (.bipush 20, 2) := by decide +kernel
theorem d_F_init_7 : decode c_F_init 7 = .ok (.newarray .int, 2) := by decide +kernel
theorem d_F_init_9 : decode c_F_init 9 = .ok (.putfield 9, 3) := by decide +kernel
theorem d_F_init_12 : decode c_F_init 12 = .ok (.aload_n 0, 1) := by decide +kernel
theorem d_F_init_13 : decode c_F_init 13 = .ok (.bipush 20, 2) := by decide +kernel
theorem d_F_init_15 : decode c_F_init 15 = .ok (.newarray .int, 2) := by decide +kernel
theorem d_F_init_17 : decode c_F_init 17 = .ok (.putfield 15, 3) := by decide +kernel
theorem d_F_init_20 : decode c_F_init 20 = .ok (.aload_n 0, 1) := by decide +kernel
theorem d_F_init_21 : decode c_F_init 21 = .ok (.bipush 20, 2) := by decide +kernel
theorem d_F_init_23 : decode c_F_init 23 = .ok (.newarray .int, 2) := by decide +kernel
theorem d_F_init_25 : decode c_F_init 25 = .ok (.putfield 18, 3) := by decide +kernel
theorem d_F_init_28 : decode c_F_init 28 = .ok (.aload_n 0, 1) := by decide +kernel
theorem d_F_init_29 : decode c_F_init 29 = .ok (.bipush 20, 2) := by decide +kernel
theorem d_F_init_31 : decode c_F_init 31 = .ok (.newarray .int, 2) := by decide +kernel
theorem d_F_init_33 : decode c_F_init 33 = .ok (.putfield 21, 3) := by decide +kernel
theorem d_F_init_36 : decode c_F_init 36 = .ok (.aload_n 0, 1) := by decide +kernel
theorem d_F_init_37 : decode c_F_init 37 = .ok (.bipush 20, 2) := by decide +kernel
theorem d_F_init_39 : decode c_F_init 39 = .ok (.newarray .int, 2) := by decide +kernel
theorem d_F_init_41 : decode c_F_init 41 = .ok (.putfield 24, 3) := by decide +kernel
theorem d_F_init_44 : decode c_F_init 44 = .ok (.aload_n 0, 1) := by decide +kernel
theorem d_F_init_45 : decode c_F_init 45 = .ok (.bipush 20, 2) := by decide +kernel
theorem d_F_init_47 : decode c_F_init 47 = .ok (.bipush 20, 2) := by decide +kernel
theorem d_F_init_49 : decode c_F_init 49 = .ok (.multianewarray 27 2, 4) := by decide +kernel
theorem d_F_init_53 : decode c_F_init 53 = .ok (.putfield 29, 3) := by decide +kernel
theorem d_F_init_56 : decode c_F_init 56 = .ok (.aload_n 0, 1) := by decide +kernel
theorem d_F_init_57 : decode c_F_init 57 = .ok (.bipush 20, 2) := by decide +kernel
theorem d_F_init_59 : decode c_F_init 59 = .ok (.newarray .int, 2) := by decide +kernel
theorem d_F_init_61 : decode c_F_init 61 = .ok (.putfield 32, 3) := by decide +kernel
theorem d_F_init_64 : decode c_F_init 64 = .ok (.return_, 1) := by decide +kernel
theorem d_F_enter_0 : decode c_F_enter 0 = .ok (.aload_n 0, 1) := by decide +kernel
theorem d_F_enter_1 : decode c_F_enter 1 = .ok (.getfield 35, 3) := by decide +kernel
theorem d_F_enter_4 : decode c_F_enter 4 = .ok (.istore_n 3, 1) := by decide +kernel
theorem d_F_enter_5 : decode c_F_enter 5 = .ok (.aload_n 0, 1) := by decide +kernel
theorem d_F_enter_6 : decode c_F_enter 6 = .ok (.getfield 9, 3) := by decide +kernel
theorem d_F_enter_9 : decode c_F_enter 9 = .ok (.iload_n 3, 1) := by decide +kernel
theorem d_F_enter_10 : decode c_F_enter 10 = .ok (.iload_n 1, 1) := by decide +kernel
theorem d_F_enter_11 : decode c_F_enter 11 = .ok (.iastore, 1) := by decide +kernel
theorem d_F_enter_12 : decode c_F_enter 12 = .ok (.aload_n 0, 1) := by decide +kernel
theorem d_F_enter_13 : decode c_F_enter 13 = .ok (.getfield 15, 3) := by decide +kernel
theorem d_F_enter_16 : decode c_F_enter 16 = .ok (.iload_n 3, 1) := by decide +kernel
theorem d_F_enter_17 : decode c_F_enter 17 = .ok (.iload_n 2, 1) := by decide +kernel
theorem d_F_enter_18 : decode c_F_enter 18 = .ok (.iastore, 1) := by decide +kernel
theorem d_F_enter_19 : decode c_F_enter 19 = .ok (.aload_n 0, 1) := by decide +kernel
theorem d_F_enter_20 : decode c_F_enter 20 = .ok (.getfield 18, 3) := by decide +kernel
theorem d_F_enter_23 : decode c_F_enter 23 = .ok (.iload_n 3, 1) := by decide +kernel
theorem d_F_enter_24 : decode c_F_enter 24 = .ok (.iconst (-1), 1) := by decide +kernel
theorem d_F_enter_25 : decode c_F_enter 25 = .ok (.iastore, 1) := by decide +kernel
theorem d_F_enter_26 : decode c_F_enter 26 = .ok (.aload_n 0, 1) := by decide +kernel
theorem d_F_enter_27 : decode c_F_enter 27 = .ok (.getfield 21, 3) := by decide +kernel
theorem d_F_enter_30 : decode c_F_enter 30 = .ok (.iload_n 3, 1) := by decide +kernel
theorem d_F_enter_31 : decode c_F_enter 31 = .ok (.iconst (-1), 1) := by decide +kernel
theorem d_F_enter_32 : decode c_F_enter 32 = .ok (.iastore, 1) := by decide +kernel
theorem d_F_enter_33 : decode c_F_enter 33 = .ok (.aload_n 0, 1) := by decide +kernel
theorem d_F_enter_34 : decode c_F_enter 34 = .ok (.dup, 1) := by decide +kernel
theorem d_F_enter_35 : decode c_F_enter 35 = .ok (.getfield 35, 3) := by decide +kernel
theorem d_F_enter_38 : decode c_F_enter 38 = .ok (.iconst 1, 1) := by decide +kernel
theorem d_F_enter_39 : decode c_F_enter 39 = .ok (.iadd, 1) := by decide +kernel
theorem d_F_enter_40 : decode c_F_enter 40 = .ok (.putfield 35, 3) := by decide +kernel
theorem d_F_enter_43 : decode c_F_enter 43 = .ok (.iload_n 3, 1) := by decide +kernel
theorem d_F_enter_44 : decode c_F_enter 44 = .ok (.ireturn, 1) := by decide +kernel
theorem d_F_died_0 : decode c_F_died 0 = .ok (.aload_n 0, 1) := by decide +kernel
theorem d_F_died_1 : decode c_F_died 1 = .ok (.getfield 21, 3) := by decide +kernel
theorem d_F_died_4 : decode c_F_died 4 = .ok (.iload_n 1, 1) := by decide +kernel
theorem d_F_died_5 : decode c_F_died 5 = .ok (.iaload, 1) := by decide +kernel
theorem d_F_died_6 : decode c_F_died 6 = .ok (.iconst (-1), 1) := by decide +kernel
theorem d_F_died_7 : decode c_F_died 7 = .ok (.if_icmp .eq 7, 3) := by decide +kernel
theorem d_F_died_10 : decode c_F_died 10 = .ok (.iconst 1, 1) := by decide +kernel
theorem d_F_died_11 : decode c_F_died 11 = .ok (.goto 4, 3) := by decide +kernel
theorem d_F_died_14 : decode c_F_died 14 = .ok (.iconst 0, 1) := by decide +kernel
theorem d_F_died_15 : decode c_F_died 15 = .ok (.ireturn, 1) := by decide +kernel
theorem d_F_isFree_0 : decode c_F_isFree 0 = .ok (.aload_n 0, 1) := by decide +kernel
theorem d_F_isFree_1 : decode c_F_isFree 1 = .ok (.iload_n 1, 1) := by decide +kernel
theorem d_F_isFree_2 : decode c_F_isFree 2 = .ok (.invokevirtual 39, 3) := by decide +kernel
theorem d_F_isFree_5 : decode c_F_isFree 5 = .ok (.ifCond .ne 30, 3) := by decide +kernel
theorem d_F_isFree_8 : decode c_F_isFree 8 = .ok (.aload_n 0, 1) := by decide +kernel
theorem d_F_isFree_9 : decode c_F_isFree 9 = .ok (.getfield 18, 3) := by decide +kernel
theorem d_F_isFree_12 : decode c_F_isFree 12 = .ok (.iload_n 1, 1) := by decide +kernel
theorem d_F_isFree_13 : decode c_F_isFree 13 = .ok (.iaload, 1) := by decide +kernel
theorem d_F_isFree_14 : decode c_F_isFree 14 = .ok (.iconst (-1), 1) := by decide +kernel
theorem d_F_isFree_15 : decode c_F_isFree 15 = .ok (.if_icmp .eq 16, 3) := by decide +kernel
theorem d_F_isFree_18 : decode c_F_isFree 18 = .ok (.aload_n 0, 1) := by decide +kernel
theorem d_F_isFree_19 : decode c_F_isFree 19 = .ok (.aload_n 0, 1) := by decide +kernel
theorem d_F_isFree_20 : decode c_F_isFree 20 = .ok (.getfield 18, 3) := by decide +kernel
theorem d_F_isFree_23 : decode c_F_isFree 23 = .ok (.iload_n 1, 1) := by decide +kernel
theorem d_F_isFree_24 : decode c_F_isFree 24 = .ok (.iaload, 1) := by decide +kernel
theorem d_F_isFree_25 : decode c_F_isFree 25 = .ok (.invokevirtual 39, 3) := by decide +kernel
theorem d_F_isFree_28 : decode c_F_isFree 28 = .ok (.ifCond .eq 7, 3) := by decide +kernel
theorem d_F_isFree_31 : decode c_F_isFree 31 = .ok (.iconst 1, 1) := by decide +kernel
theorem d_F_isFree_32 : decode c_F_isFree 32 = .ok (.goto 4, 3) := by decide +kernel
theorem d_F_isFree_35 : decode c_F_isFree 35 = .ok (.iconst 0, 1) := by decide +kernel
theorem d_F_isFree_36 : decode c_F_isFree 36 = .ok (.ireturn, 1) := by decide +kernel
theorem d_F_isChild_0 : decode c_F_isChild 0 = .ok (.aload_n 0, 1) := by decide +kernel
theorem d_F_isChild_1 : decode c_F_isChild 1 = .ok (.getfield 9, 3) := by decide +kernel
theorem d_F_isChild_4 : decode c_F_isChild 4 = .ok (.iload_n 1, 1) := by decide +kernel
theorem d_F_isChild_5 : decode c_F_isChild 5 = .ok (.iaload, 1) := by decide +kernel
theorem d_F_isChild_6 : decode c_F_isChild 6 = .ok (.iload_n 2, 1) := by decide +kernel
theorem d_F_isChild_7 : decode c_F_isChild 7 = .ok (.if_icmp .eq 13, 3) := by decide +kernel
theorem d_F_isChild_10 : decode c_F_isChild 10 = .ok (.aload_n 0, 1) := by decide +kernel
theorem d_F_isChild_11 : decode c_F_isChild 11 = .ok (.getfield 15, 3) := by decide +kernel
theorem d_F_isChild_14 : decode c_F_isChild 14 = .ok (.iload_n 1, 1) := by decide +kernel
theorem d_F_isChild_15 : decode c_F_isChild 15 = .ok (.iaload, 1) := by decide +kernel
theorem d_F_isChild_16 : decode c_F_isChild 16 = .ok (.iload_n 2, 1) := by decide +kernel
theorem d_F_isChild_17 : decode c_F_isChild 17 = .ok (.if_icmp .ne 7, 3) := by decide +kernel
theorem d_F_isChild_20 : decode c_F_isChild 20 = .ok (.iconst 1, 1) := by decide +kernel
theorem d_F_isChild_21 : decode c_F_isChild 21 = .ok (.goto 4, 3) := by decide +kernel
theorem d_F_isChild_24 : decode c_F_isChild 24 = .ok (.iconst 0, 1) := by decide +kernel
theorem d_F_isChild_25 : decode c_F_isChild 25 = .ok (.ireturn, 1) := by decide +kernel
theorem d_F_isExcluded_0 : decode c_F_isExcluded 0 = .ok (.aload_n 0, 1) := by decide +kernel
theorem d_F_isExcluded_1 : decode c_F_isExcluded 1 = .ok (.getfield 32, 3) := by decide +kernel
theorem d_F_isExcluded_4 : decode c_F_isExcluded 4 = .ok (.iload_n 2, 1) := by decide +kernel
theorem d_F_isExcluded_5 : decode c_F_isExcluded 5 = .ok (.iaload, 1) := by decide +kernel
theorem d_F_isExcluded_6 : decode c_F_isExcluded 6 = .ok (.iconst 1, 1) := by decide +kernel
theorem d_F_isExcluded_7 : decode c_F_isExcluded 7 = .ok (.iload_n 1, 1) := by decide +kernel
theorem d_F_isExcluded_8 : decode c_F_isExcluded 8 = .ok (.ishl, 1) := by decide +kernel
theorem d_F_isExcluded_9 : decode c_F_isExcluded 9 = .ok (.iand, 1) := by decide +kernel
theorem d_F_isExcluded_10 : decode c_F_isExcluded 10 = .ok (.ifCond .eq 7, 3) := by decide +kernel
theorem d_F_isExcluded_13 : decode c_F_isExcluded 13 = .ok (.iconst 1, 1) := by decide +kernel
theorem d_F_isExcluded_14 : decode c_F_isExcluded 14 = .ok (.goto 4, 3) := by decide +kernel
theorem d_F_isExcluded_17 : decode c_F_isExcluded 17 = .ok (.iconst 0, 1) := by decide +kernel
theorem d_F_isExcluded_18 : decode c_F_isExcluded 18 = .ok (.ireturn, 1) := by decide +kernel
theorem d_F_setExcluded_0 : decode c_F_setExcluded 0 = .ok (.aload_n 0, 1) := by decide +kernel
theorem d_F_setExcluded_1 : decode c_F_setExcluded 1 = .ok (.getfield 32, 3) := by decide +kernel
theorem d_F_setExcluded_4 : decode c_F_setExcluded 4 = .ok (.iload_n 2, 1) := by decide +kernel
theorem d_F_setExcluded_5 : decode c_F_setExcluded 5 = .ok (.iload_n 3, 1) := by decide +kernel
theorem d_F_setExcluded_6 : decode c_F_setExcluded 6 = .ok (.ifCond .eq 16, 3) := by decide +kernel
theorem d_F_setExcluded_9 : decode c_F_setExcluded 9 = .ok (.aload_n 0, 1) := by decide +kernel
theorem d_F_setExcluded_10 : decode c_F_setExcluded 10 = .ok (.getfield 32, 3) := by decide +kernel
theorem d_F_setExcluded_13 : decode c_F_setExcluded 13 = .ok (.iload_n 2, 1) := by decide +kernel
theorem d_F_setExcluded_14 : decode c_F_setExcluded 14 = .ok (.iaload, 1) := by decide +kernel
theorem d_F_setExcluded_15 : decode c_F_setExcluded 15 = .ok (.iconst 1, 1) := by decide +kernel
theorem d_F_setExcluded_16 : decode c_F_setExcluded 16 = .ok (.iload_n 1, 1) := by decide +kernel
theorem d_F_setExcluded_17 : decode c_F_setExcluded 17 = .ok (.ishl, 1) := by decide +kernel
theorem d_F_setExcluded_18 : decode c_F_setExcluded 18 = .ok (.ior, 1) := by decide +kernel
theorem d_F_setExcluded_19 : decode c_F_setExcluded 19 = .ok (.goto 15, 3) := by decide +kernel
theorem d_F_setExcluded_22 : decode c_F_setExcluded 22 = .ok (.aload_n 0, 1) := by decide +kernel
theorem d_F_setExcluded_23 : decode c_F_setExcluded 23 = .ok (.getfield 32, 3) := by decide +kernel
theorem d_F_setExcluded_26 : decode c_F_setExcluded 26 = .ok (.iload_n 2, 1) := by decide +kernel
theorem d_F_setExcluded_27 : decode c_F_setExcluded 27 = .ok (.iaload, 1) := by decide +kernel
theorem d_F_setExcluded_28 : decode c_F_setExcluded 28 = .ok (.iconst 1, 1) := by decide +kernel
theorem d_F_setExcluded_29 : decode c_F_setExcluded 29 = .ok (.iload_n 1, 1) := by decide +kernel
theorem d_F_setExcluded_30 : decode c_F_setExcluded 30 = .ok (.ishl, 1) := by decide +kernel
theorem d_F_setExcluded_31 : decode c_F_setExcluded 31 = .ok (.iconst (-1), 1) := by decide +kernel
theorem d_F_setExcluded_32 : decode c_F_setExcluded 32 = .ok (.ixor, 1) := by decide +kernel
theorem d_F_setExcluded_33 : decode c_F_setExcluded 33 = .ok (.iand, 1) := by decide +kernel
theorem d_F_setExcluded_34 : decode c_F_setExcluded 34 = .ok (.iastore, 1) := by decide +kernel
theorem d_F_setExcluded_35 : decode c_F_setExcluded 35 = .ok (.return_, 1) := by decide +kernel
theorem d_F_isLeft_0 : decode c_F_isLeft 0 = .ok (.iload_n 1, 1) := by decide +kernel
theorem d_F_isLeft_1 : decode c_F_isLeft 1 = .ok (.iload_n 2, 1) := by decide +kernel
theorem d_F_isLeft_2 : decode c_F_isLeft 2 = .ok (.if_icmp .eq 39, 3) := by decide +kernel
theorem d_F_isLeft_5 : decode c_F_isLeft 5 = .ok (.aload_n 0, 1) := by decide +kernel
theorem d_F_isLeft_6 : decode c_F_isLeft 6 = .ok (.iload_n 1, 1) := by decide +kernel
theorem d_F_isLeft_7 : decode c_F_isLeft 7 = .ok (.iload_n 2, 1) := by decide +kernel
theorem d_F_isLeft_8 : decode c_F_isLeft 8 = .ok (.invokevirtual 43, 3) := by decide +kernel
theorem d_F_isLeft_11 : decode c_F_isLeft 11 = .ok (.ifCond .ne 30, 3) := by decide +kernel
theorem d_F_isLeft_14 : decode c_F_isLeft 14 = .ok (.aload_n 0, 1) := by decide +kernel
theorem d_F_isLeft_15 : decode c_F_isLeft 15 = .ok (.iload_n 1, 1) := by decide +kernel
theorem d_F_isLeft_16 : decode c_F_isLeft 16 = .ok (.invokevirtual 39, 3) := by decide +kernel
theorem d_F_isLeft_19 : decode c_F_isLeft 19 = .ok (.ifCond .eq 18, 3) := by decide +kernel
theorem d_F_isLeft_22 : decode c_F_isLeft 22 = .ok (.aload_n 0, 1) := by decide +kernel
theorem d_F_isLeft_23 : decode c_F_isLeft 23 = .ok (.getfield 21, 3) := by decide +kernel
theorem d_F_isLeft_26 : decode c_F_isLeft 26 = .ok (.iload_n 1, 1) := by decide +kernel
theorem d_F_isLeft_27 : decode c_F_isLeft 27 = .ok (.iaload, 1) := by decide +kernel
theorem d_F_isLeft_28 : decode c_F_isLeft 28 = .ok (.aload_n 0, 1) := by decide +kernel
theorem d_F_isLeft_29 : decode c_F_isLeft 29 = .ok (.getfield 21, 3) := by decide +kernel
theorem d_F_isLeft_32 : decode c_F_isLeft 32 = .ok (.iload_n 2, 1) := by decide +kernel
theorem d_F_isLeft_33 : decode c_F_isLeft 33 = .ok (.iaload, 1) := by decide +kernel
theorem d_F_isLeft_34 : decode c_F_isLeft 34 = .ok (.if_icmp .le 7, 3) := by decide +kernel
theorem d_F_isLeft_37 : decode c_F_isLeft 37 = .ok (.iconst 1, 1) := by decide +kernel
theorem d_F_isLeft_38 : decode c_F_isLeft 38 = .ok (.goto 4, 3) := by decide +kernel
theorem d_F_isLeft_41 : decode c_F_isLeft 41 = .ok (.iconst 0, 1) := by decide +kernel
theorem d_F_isLeft_42 : decode c_F_isLeft 42 = .ok (.ireturn, 1) := by decide +kernel
theorem d_V_init_0 : decode c_V_init 0 = .ok (.aload_n 0, 1) := by decide +kernel
theorem d_V_init_1 : decode c_V_init 1 = .ok (.invokespecial 3, 3) := by decide +kernel
theorem d_V_init_4 : decode c_V_init 4 = .ok (.aload_n 0, 1) := by decide +kernel
theorem d_V_init_5 : decode c_V_init 5 = .ok (.bipush 20, 2) := by decide +kernel
theorem d_V_init_7 : decode c_V_init 7 = .ok (.newarray .boolean, 2) := by decide +kernel
theorem d_V_init_9 : decode c_V_init 9 = .ok (.putfield 9, 3) := by decide +kernel
theorem d_V_init_12 : decode c_V_init 12 = .ok (.aload_n 0, 1) := by decide +kernel
theorem d_V_init_13 : decode c_V_init 13 = .ok (.bipush 20, 2) := by decide +kernel
theorem d_V_init_15 : decode c_V_init 15 = .ok (.newarray .int, 2) := by decide +kernel
theorem d_V_init_17 : decode c_V_init 17 = .ok (.putfield 15, 3) := by decide +kernel
theorem d_V_init_20 : decode c_V_init 20 = .ok (.aload_n 0, 1) := by decide +kernel
theorem d_V_init_21 : decode c_V_init 21 = .ok (.bipush 80, 2) := by decide +kernel
theorem d_V_init_23 : decode c_V_init 23 = .ok (.newarray .boolean, 2) := by decide +kernel
theorem d_V_init_25 : decode c_V_init 25 = .ok (.putfield 19, 3) := by decide +kernel
theorem d_V_init_28 : decode c_V_init 28 = .ok (.aload_n 0, 1) := by decide +kernel
theorem d_V_init_29 : decode c_V_init 29 = .ok (.bipush 20, 2) := by decide +kernel
theorem d_V_init_31 : decode c_V_init 31 = .ok (.newarray .boolean, 2) := by decide +kernel
theorem d_V_init_33 : decode c_V_init 33 = .ok (.putfield 22, 3) := by decide +kernel
theorem d_V_init_36 : decode c_V_init 36 = .ok (.aload_n 0, 1) := by decide +kernel
theorem d_V_init_37 : decode c_V_init 37 = .ok (.aload_n 1, 1) := by decide +kernel
theorem d_V_init_38 : decode c_V_init 38 = .ok (.putfield 25, 3) := by decide +kernel
theorem d_V_init_41 : decode c_V_init 41 = .ok (.return_, 1) := by decide +kernel
theorem d_V_look_0 : decode c_V_look 0 = .ok (.aload_n 0, 1) := by decide +kernel
theorem d_V_look_1 : decode c_V_look 1 = .ok (.iload_n 1, 1) := by decide +kernel
theorem d_V_look_2 : decode c_V_look 2 = .ok (.putfield 29, 3) := by decide +kernel
theorem d_V_look_5 : decode c_V_look 5 = .ok (.aload_n 0, 1) := by decide +kernel
theorem d_V_look_6 : decode c_V_look 6 = .ok (.invokevirtual 33, 3) := by decide +kernel
theorem d_V_look_9 : decode c_V_look 9 = .ok (.aload_n 0, 1) := by decide +kernel
theorem d_V_look_10 : decode c_V_look 10 = .ok (.invokevirtual 36, 3) := by decide +kernel
theorem d_V_look_13 : decode c_V_look 13 = .ok (.aload_n 0, 1) := by decide +kernel
theorem d_V_look_14 : decode c_V_look 14 = .ok (.getfield 25, 3) := by decide +kernel
theorem d_V_look_17 : decode c_V_look 17 = .ok (.getfield 39, 3) := by decide +kernel
theorem d_V_look_20 : decode c_V_look 20 = .ok (.iload_n 1, 1) := by decide +kernel
theorem d_V_look_21 : decode c_V_look 21 = .ok (.iaload, 1) := by decide +kernel
theorem d_V_look_22 : decode c_V_look 22 = .ok (.istore_n 2, 1) := by decide +kernel
theorem d_V_look_23 : decode c_V_look 23 = .ok (.aload_n 0, 1) := by decide +kernel
theorem d_V_look_24 : decode c_V_look 24 = .ok (.iload_n 2, 1) := by decide +kernel
theorem d_V_look_25 : decode c_V_look 25 = .ok (.iconst (-1), 1) := by decide +kernel
theorem d_V_look_26 : decode c_V_look 26 = .ok (.if_icmp .eq 16, 3) := by decide +kernel
theorem d_V_look_29 : decode c_V_look 29 = .ok (.aload_n 0, 1) := by decide +kernel
theorem d_V_look_30 : decode c_V_look 30 = .ok (.getfield 9, 3) := by decide +kernel
theorem d_V_look_33 : decode c_V_look 33 = .ok (.iload_n 2, 1) := by decide +kernel
theorem d_V_look_34 : decode c_V_look 34 = .ok (.baload, 1) := by decide +kernel
theorem d_V_look_35 : decode c_V_look 35 = .ok (.ifCond .eq 7, 3) := by decide +kernel
theorem d_V_look_38 : decode c_V_look 38 = .ok (.iload_n 2, 1) := by decide +kernel
theorem d_V_look_39 : decode c_V_look 39 = .ok (.goto 4, 3) := by decide +kernel
theorem d_V_look_42 : decode c_V_look 42 = .ok (.iconst (-1), 1) := by decide +kernel
theorem d_V_look_43 : decode c_V_look 43 = .ok (.putfield 44, 3) := by decide +kernel
theorem d_V_look_46 : decode c_V_look 46 = .ok (.aload_n 0, 1) := by decide +kernel
theorem d_V_look_47 : decode c_V_look 47 = .ok (.aload_n 0, 1) := by decide +kernel
theorem d_V_look_48 : decode c_V_look 48 = .ok (.invokevirtual 47, 3) := by decide +kernel
theorem d_V_look_51 : decode c_V_look 51 = .ok (.putfield 51, 3) := by decide +kernel
theorem d_V_look_54 : decode c_V_look 54 = .ok (.return_, 1) := by decide +kernel
theorem d_V_hasHeirs_0 : decode c_V_hasHeirs 0 = .ok (.iload_n 1, 1) := by decide +kernel
theorem d_V_hasHeirs_1 : decode c_V_hasHeirs 1 = .ok (.iconst (-1), 1) := by decide +kernel
theorem d_V_hasHeirs_2 : decode c_V_hasHeirs 2 = .ok (.if_icmp .eq 21, 3) := by decide +kernel
theorem d_V_hasHeirs_5 : decode c_V_hasHeirs 5 = .ok (.aload_n 0, 1) := by decide +kernel
theorem d_V_hasHeirs_6 : decode c_V_hasHeirs 6 = .ok (.getfield 19, 3) := by decide +kernel
theorem d_V_hasHeirs_9 : decode c_V_hasHeirs 9 = .ok (.iload_n 2, 1) := by decide +kernel
theorem d_V_hasHeirs_10 : decode c_V_hasHeirs 10 = .ok (.bipush 20, 2) := by decide +kernel
theorem d_V_hasHeirs_12 : decode c_V_hasHeirs 12 = .ok (.imul, 1) := by decide +kernel
theorem d_V_hasHeirs_13 : decode c_V_hasHeirs 13 = .ok (.iload_n 1, 1) := by decide +kernel
theorem d_V_hasHeirs_14 : decode c_V_hasHeirs 14 = .ok (.iadd, 1) := by decide +kernel
theorem d_V_hasHeirs_15 : decode c_V_hasHeirs 15 = .ok (.baload, 1) := by decide +kernel
theorem d_V_hasHeirs_16 : decode c_V_hasHeirs 16 = .ok (.ifCond .eq 7, 3) := by decide +kernel
theorem d_V_hasHeirs_19 : decode c_V_hasHeirs 19 = .ok (.iconst 1, 1) := by decide +kernel
theorem d_V_hasHeirs_20 : decode c_V_hasHeirs 20 = .ok (.goto 4, 3) := by decide +kernel
theorem d_V_hasHeirs_23 : decode c_V_hasHeirs 23 = .ok (.iconst 0, 1) := by decide +kernel
theorem d_V_hasHeirs_24 : decode c_V_hasHeirs 24 = .ok (.ireturn, 1) := by decide +kernel
theorem d_V_spouseQuarters_0 : decode c_V_spouseQuarters 0 = .ok (.aload_n 0, 1) := by decide +kernel
theorem d_V_spouseQuarters_1 : decode c_V_spouseQuarters 1 = .ok (.getfield 44, 3) := by decide +kernel
theorem d_V_spouseQuarters_4 : decode c_V_spouseQuarters 4 = .ok (.iconst (-1), 1) := by decide +kernel
theorem d_V_spouseQuarters_5 : decode c_V_spouseQuarters 5 = .ok (.if_icmp .ne 5, 3) := by decide +kernel
theorem d_V_spouseQuarters_8 : decode c_V_spouseQuarters 8 = .ok (.iconst 0, 1) := by decide +kernel
theorem d_V_spouseQuarters_9 : decode c_V_spouseQuarters 9 = .ok (.ireturn, 1) := by decide +kernel
theorem d_V_spouseQuarters_10 : decode c_V_spouseQuarters 10 = .ok (.aload_n 0, 1) := by decide +kernel
theorem d_V_spouseQuarters_11 : decode c_V_spouseQuarters 11 = .ok (.getfield 51, 3) := by decide +kernel
theorem d_V_spouseQuarters_14 : decode c_V_spouseQuarters 14 = .ok (.ifCond .ne 5, 3) := by decide +kernel
theorem d_V_spouseQuarters_17 : decode c_V_spouseQuarters 17 = .ok (.iconst 1, 1) := by decide +kernel
theorem d_V_spouseQuarters_18 : decode c_V_spouseQuarters 18 = .ok (.ireturn, 1) := by decide +kernel
theorem d_V_spouseQuarters_19 : decode c_V_spouseQuarters 19 = .ok (.aload_n 0, 1) := by decide +kernel
theorem d_V_spouseQuarters_20 : decode c_V_spouseQuarters 20 = .ok (.getfield 51, 3) := by decide +kernel
theorem d_V_spouseQuarters_23 : decode c_V_spouseQuarters 23 = .ok (.iconst 3, 1) := by decide +kernel
theorem d_V_spouseQuarters_24 : decode c_V_spouseQuarters 24 = .ok (.if_icmp .gt 7, 3) := by decide +kernel
theorem d_V_spouseQuarters_27 : decode c_V_spouseQuarters 27 = .ok (.iconst 2, 1) := by decide +kernel
theorem d_V_spouseQuarters_28 : decode c_V_spouseQuarters 28 = .ok (.goto 4, 3) := by decide +kernel
theorem d_V_spouseQuarters_31 : decode c_V_spouseQuarters 31 = .ok (.iconst 4, 1) := by decide +kernel
theorem d_V_spouseQuarters_32 : decode c_V_spouseQuarters 32 = .ok (.ireturn, 1) := by decide +kernel
theorem d_V_findStems_0 : decode c_V_findStems 0 = .ok (.aload_n 0, 1) := by decide +kernel
theorem d_V_findStems_1 : decode c_V_findStems 1 = .ok (.getfield 15, 3) := by decide +kernel
theorem d_V_findStems_4 : decode c_V_findStems 4 = .ok (.iconst 0, 1) := by decide +kernel
theorem d_V_findStems_5 : decode c_V_findStems 5 = .ok (.invokestatic 54, 3) := by decide +kernel
theorem d_V_findStems_8 : decode c_V_findStems 8 = .ok (.aload_n 0, 1) := by decide +kernel
theorem d_V_findStems_9 : decode c_V_findStems 9 = .ok (.getfield 25, 3) := by decide +kernel
theorem d_V_findStems_12 : decode c_V_findStems 12 = .ok (.getfield 60, 3) := by decide +kernel
theorem d_V_findStems_15 : decode c_V_findStems 15 = .ok (.iconst 1, 1) := by decide +kernel
theorem d_V_findStems_16 : decode c_V_findStems 16 = .ok (.isub, 1) := by decide +kernel
theorem d_V_findStems_17 : decode c_V_findStems 17 = .ok (.istore_n 1, 1) := by decide +kernel
theorem d_V_findStems_18 : decode c_V_findStems 18 = .ok (.iload_n 1, 1) := by decide +kernel
theorem d_V_findStems_19 : decode c_V_findStems 19 = .ok (.ifCond .lt 88, 3) := by decide +kernel
theorem d_V_findStems_22 : decode c_V_findStems 22 = .ok (.aload_n 0, 1) := by decide +kernel
theorem d_V_findStems_23 : decode c_V_findStems 23 = .ok (.getfield 9, 3) := by decide +kernel
theorem d_V_findStems_26 : decode c_V_findStems 26 = .ok (.iload_n 1, 1) := by decide +kernel
theorem d_V_findStems_27 : decode c_V_findStems 27 = .ok (.aload_n 0, 1) := by decide +kernel
theorem d_V_findStems_28 : decode c_V_findStems 28 = .ok (.getfield 25, 3) := by decide +kernel
theorem d_V_findStems_31 : decode c_V_findStems 31 = .ok (.iload_n 1, 1) := by decide +kernel
theorem d_V_findStems_32 : decode c_V_findStems 32 = .ok (.aload_n 0, 1) := by decide +kernel
theorem d_V_findStems_33 : decode c_V_findStems 33 = .ok (.getfield 29, 3) := by decide +kernel
theorem d_V_findStems_36 : decode c_V_findStems 36 = .ok (.invokevirtual 63, 3) := by decide +kernel
theorem d_V_findStems_39 : decode c_V_findStems 39 = .ok (.bastore, 1) := by decide +kernel
theorem d_V_findStems_40 : decode c_V_findStems 40 = .ok (.aload_n 0, 1) := by decide +kernel
theorem d_V_findStems_41 : decode c_V_findStems 41 = .ok (.getfield 9, 3) := by decide +kernel
theorem d_V_findStems_44 : decode c_V_findStems 44 = .ok (.iload_n 1, 1) := by decide +kernel
theorem d_V_findStems_45 : decode c_V_findStems 45 = .ok (.baload, 1) := by decide +kernel
theorem d_V_findStems_46 : decode c_V_findStems 46 = .ok (.ifCond .ne 12, 3) := by decide +kernel
theorem d_V_findStems_49 : decode c_V_findStems 49 = .ok (.aload_n 0, 1) := by decide +kernel
theorem d_V_findStems_50 : decode c_V_findStems 50 = .ok (.getfield 15, 3) := by decide +kernel
theorem d_V_findStems_53 : decode c_V_findStems 53 = .ok (.iload_n 1, 1) := by decide +kernel
theorem d_V_findStems_54 : decode c_V_findStems 54 = .ok (.iaload, 1) := by decide +kernel
theorem d_V_findStems_55 : decode c_V_findStems 55 = .ok (.ifCond .le 7, 3) := by decide +kernel
theorem d_V_findStems_58 : decode c_V_findStems 58 = .ok (.iconst 1, 1) := by decide +kernel
theorem d_V_findStems_59 : decode c_V_findStems 59 = .ok (.goto 4, 3) := by decide +kernel
theorem d_V_findStems_62 : decode c_V_findStems 62 = .ok (.iconst 0, 1) := by decide +kernel
theorem d_V_findStems_63 : decode c_V_findStems 63 = .ok (.istore_n 2, 1) := by decide +kernel
theorem d_V_findStems_64 : decode c_V_findStems 64 = .ok (.aload_n 0, 1) := by decide +kernel
theorem d_V_findStems_65 : decode c_V_findStems 65 = .ok (.getfield 19, 3) := by decide +kernel
theorem d_V_findStems_68 : decode c_V_findStems 68 = .ok (.iload_n 1, 1) := by decide +kernel
theorem d_V_findStems_69 : decode c_V_findStems 69 = .ok (.iload_n 2, 1) := by decide +kernel
theorem d_V_findStems_70 : decode c_V_findStems 70 = .ok (.bastore, 1) := by decide +kernel
theorem d_V_findStems_71 : decode c_V_findStems 71 = .ok (.iload_n 2, 1) := by decide +kernel
theorem d_V_findStems_72 : decode c_V_findStems 72 = .ok (.ifCond .eq 29, 3) := by decide +kernel
theorem d_V_findStems_75 : decode c_V_findStems 75 = .ok (.aload_n 0, 1) := by decide +kernel
theorem d_V_findStems_76 : decode c_V_findStems 76 = .ok (.aload_n 0, 1) := by decide +kernel
theorem d_V_findStems_77 : decode c_V_findStems 77 = .ok (.getfield 25, 3) := by decide +kernel
theorem d_V_findStems_80 : decode c_V_findStems 80 = .ok (.getfield 67, 3) := by decide +kernel
theorem d_V_findStems_83 : decode c_V_findStems 83 = .ok (.iload_n 1, 1) := by decide +kernel
theorem d_V_findStems_84 : decode c_V_findStems 84 = .ok (.iaload, 1) := by decide +kernel
theorem d_V_findStems_85 : decode c_V_findStems 85 = .ok (.invokevirtual 70, 3) := by decide +kernel
theorem d_V_findStems_88 : decode c_V_findStems 88 = .ok (.aload_n 0, 1) := by decide +kernel
theorem d_V_findStems_89 : decode c_V_findStems 89 = .ok (.aload_n 0, 1) := by decide +kernel
theorem d_V_findStems_90 : decode c_V_findStems 90 = .ok (.getfield 25, 3) := by decide +kernel
theorem d_V_findStems_93 : decode c_V_findStems 93 = .ok (.getfield 74, 3) := by decide +kernel
theorem d_V_findStems_96 : decode c_V_findStems 96 = .ok (.iload_n 1, 1) := by decide +kernel
theorem d_V_findStems_97 : decode c_V_findStems 97 = .ok (.iaload, 1) := by decide +kernel
theorem d_V_findStems_98 : decode c_V_findStems 98 = .ok (.invokevirtual 70, 3) := by decide +kernel
theorem d_V_findStems_101 : decode c_V_findStems 101 = .ok (.iinc 1 (-1), 3) := by decide +kernel
theorem d_V_findStems_104 : decode c_V_findStems 104 = .ok (.goto (-86), 3) := by decide +kernel
theorem d_V_findStems_107 : decode c_V_findStems 107 = .ok (.return_, 1) := by decide +kernel
theorem d_V_addBranch_0 : decode c_V_addBranch 0 = .ok (.iload_n 1, 1) := by decide +kernel
theorem d_V_addBranch_1 : decode c_V_addBranch 1 = .ok (.iconst (-1), 1) := by decide +kernel
theorem d_V_addBranch_2 : decode c_V_addBranch 2 = .ok (.if_icmp .eq 13, 3) := by decide +kernel
theorem d_V_addBranch_5 : decode c_V_addBranch 5 = .ok (.aload_n 0, 1) := by decide +kernel
theorem d_V_addBranch_6 : decode c_V_addBranch 6 = .ok (.getfield 15, 3) := by decide +kernel
theorem d_V_addBranch_9 : decode c_V_addBranch 9 = .ok (.iload_n 1, 1) := by decide +kernel
theorem d_V_addBranch_10 : decode c_V_addBranch 10 = .ok (.dup2, 1) := by decide +kernel
theorem d_V_addBranch_11 : decode c_V_addBranch 11 = .ok (.iaload, 1) := by decide +kernel
theorem d_V_addBranch_12 : decode c_V_addBranch 12 = .ok (.iconst 1, 1) := by decide +kernel
theorem d_V_addBranch_13 : decode c_V_addBranch 13 = .ok (.iadd, 1) := by decide +kernel
theorem d_V_addBranch_14 : decode c_V_addBranch 14 = .ok (.iastore, 1) := by decide +kernel
theorem d_V_addBranch_15 : decode c_V_addBranch 15 = .ok (.return_, 1) := by decide +kernel
theorem d_V_findLines_0 : decode c_V_findLines 0 = .ok (.iconst 1, 1) := by decide +kernel
theorem d_V_findLines_1 : decode c_V_findLines 1 = .ok (.istore_n 1, 1) := by decide +kernel
theorem d_V_findLines_2 : decode c_V_findLines 2 = .ok (.iload_n 1, 1) := by decide +kernel
theorem d_V_findLines_3 : decode c_V_findLines 3 = .ok (.iconst 3, 1) := by decide +kernel
theorem d_V_findLines_4 : decode c_V_findLines 4 = .ok (.if_icmp .gt 82, 3) := by decide +kernel
theorem d_V_findLines_7 : decode c_V_findLines 7 = .ok (.iconst 0, 1) := by decide +kernel
theorem d_V_findLines_8 : decode c_V_findLines 8 = .ok (.istore_n 2, 1) := by decide +kernel
theorem d_V_findLines_9 : decode c_V_findLines 9 = .ok (.iload_n 2, 1) := by decide +kernel
theorem d_V_findLines_10 : decode c_V_findLines 10 = .ok (.aload_n 0, 1) := by decide +kernel
theorem d_V_findLines_11 : decode c_V_findLines 11 = .ok (.getfield 25, 3) := by decide +kernel
theorem d_V_findLines_14 : decode c_V_findLines 14 = .ok (.getfield 60, 3) := by decide +kernel
theorem d_V_findLines_17 : decode c_V_findLines 17 = .ok (.if_icmp .ge 63, 3) := by decide +kernel
theorem d_V_findLines_20 : decode c_V_findLines 20 = .ok (.aload_n 0, 1) := by decide +kernel
theorem d_V_findLines_21 : decode c_V_findLines 21 = .ok (.getfield 19, 3) := by decide +kernel
theorem d_V_findLines_24 : decode c_V_findLines 24 = .ok (.iload_n 1, 1) := by decide +kernel
theorem d_V_findLines_25 : decode c_V_findLines 25 = .ok (.bipush 20, 2) := by decide +kernel
theorem d_V_findLines_27 : decode c_V_findLines 27 = .ok (.imul, 1) := by decide +kernel
theorem d_V_findLines_28 : decode c_V_findLines 28 = .ok (.iload_n 2, 1) := by decide +kernel
theorem d_V_findLines_29 : decode c_V_findLines 29 = .ok (.iadd, 1) := by decide +kernel
theorem d_V_findLines_30 : decode c_V_findLines 30 = .ok (.aload_n 0, 1) := by decide +kernel
theorem d_V_findLines_31 : decode c_V_findLines 31 = .ok (.aload_n 0, 1) := by decide +kernel
theorem d_V_findLines_32 : decode c_V_findLines 32 = .ok (.getfield 25, 3) := by decide +kernel
theorem d_V_findLines_35 : decode c_V_findLines 35 = .ok (.getfield 67, 3) := by decide +kernel
theorem d_V_findLines_38 : decode c_V_findLines 38 = .ok (.iload_n 2, 1) := by decide +kernel
theorem d_V_findLines_39 : decode c_V_findLines 39 = .ok (.iaload, 1) := by decide +kernel
theorem d_V_findLines_40 : decode c_V_findLines 40 = .ok (.iload_n 1, 1) := by decide +kernel
theorem d_V_findLines_41 : decode c_V_findLines 41 = .ok (.iconst 1, 1) := by decide +kernel
theorem d_V_findLines_42 : decode c_V_findLines 42 = .ok (.isub, 1) := by decide +kernel
theorem d_V_findLines_43 : decode c_V_findLines 43 = .ok (.invokevirtual 77, 3) := by decide +kernel
theorem d_V_findLines_46 : decode c_V_findLines 46 = .ok (.ifCond .ne 22, 3) := by decide +kernel
theorem d_V_findLines_49 : decode c_V_findLines 49 = .ok (.aload_n 0, 1) := by decide +kernel
theorem d_V_findLines_50 : decode c_V_findLines 50 = .ok (.aload_n 0, 1) := by decide +kernel
theorem d_V_findLines_51 : decode c_V_findLines 51 = .ok (.getfield 25, 3) := by decide +kernel
theorem d_V_findLines_54 : decode c_V_findLines 54 = .ok (.getfield 74, 3) := by decide +kernel
theorem d_V_findLines_57 : decode c_V_findLines 57 = .ok (.iload_n 2, 1) := by decide +kernel
theorem d_V_findLines_58 : decode c_V_findLines 58 = .ok (.iaload, 1) := by decide +kernel
theorem d_V_findLines_59 : decode c_V_findLines 59 = .ok (.iload_n 1, 1) := by decide +kernel
theorem d_V_findLines_60 : decode c_V_findLines 60 = .ok (.iconst 1, 1) := by decide +kernel
theorem d_V_findLines_61 : decode c_V_findLines 61 = .ok (.isub, 1) := by decide +kernel
theorem d_V_findLines_62 : decode c_V_findLines 62 = .ok (.invokevirtual 77, 3) := by decide +kernel
theorem d_V_findLines_65 : decode c_V_findLines 65 = .ok (.ifCond .eq 7, 3) := by decide +kernel
theorem d_V_findLines_68 : decode c_V_findLines 68 = .ok (.iconst 1, 1) := by decide +kernel
theorem d_V_findLines_69 : decode c_V_findLines 69 = .ok (.goto 4, 3) := by decide +kernel
theorem d_V_findLines_72 : decode c_V_findLines 72 = .ok (.iconst 0, 1) := by decide +kernel
theorem d_V_findLines_73 : decode c_V_findLines 73 = .ok (.bastore, 1) := by decide +kernel
theorem d_V_findLines_74 : decode c_V_findLines 74 = .ok (.iinc 2 1, 3) := by decide +kernel
theorem d_V_findLines_77 : decode c_V_findLines 77 = .ok (.goto (-68), 3) := by decide +kernel
theorem d_V_findLines_80 : decode c_V_findLines 80 = .ok (.iinc 1 1, 3) := by decide +kernel
theorem d_V_findLines_83 : decode c_V_findLines 83 = .ok (.goto (-81), 3) := by decide +kernel
theorem d_V_findLines_86 : decode c_V_findLines 86 = .ok (.return_, 1) := by decide +kernel
theorem d_V_findTaker_0 : decode c_V_findTaker 0 = .ok (.aload_n 0, 1) := by decide +kernel
theorem d_V_findTaker_1 : decode c_V_findTaker 1 = .ok (.getfield 44, 3) := by decide +kernel
theorem d_V_findTaker_4 : decode c_V_findTaker 4 = .ok (.iconst (-1), 1) := by decide +kernel
theorem d_V_findTaker_5 : decode c_V_findTaker 5 = .ok (.if_icmp .ne 7, 3) := by decide +kernel
theorem d_V_findTaker_8 : decode c_V_findTaker 8 = .ok (.iconst 3, 1) := by decide +kernel
theorem d_V_findTaker_9 : decode c_V_findTaker 9 = .ok (.goto 4, 3) := by decide +kernel
theorem d_V_findTaker_12 : decode c_V_findTaker 12 = .ok (.iconst 2, 1) := by decide +kernel
theorem d_V_findTaker_13 : decode c_V_findTaker 13 = .ok (.istore_n 1, 1) := by decide +kernel
theorem d_V_findTaker_14 : decode c_V_findTaker 14 = .ok (.iconst 0, 1) := by decide +kernel
theorem d_V_findTaker_15 : decode c_V_findTaker 15 = .ok (.istore_n 2, 1) := by decide +kernel
theorem d_V_findTaker_16 : decode c_V_findTaker 16 = .ok (.iload_n 2, 1) := by decide +kernel
theorem d_V_findTaker_17 : decode c_V_findTaker 17 = .ok (.iload_n 1, 1) := by decide +kernel
theorem d_V_findTaker_18 : decode c_V_findTaker 18 = .ok (.if_icmp .gt 23, 3) := by decide +kernel
theorem d_V_findTaker_21 : decode c_V_findTaker 21 = .ok (.aload_n 0, 1) := by decide +kernel
theorem d_V_findTaker_22 : decode c_V_findTaker 22 = .ok (.aload_n 0, 1) := by decide +kernel
theorem d_V_findTaker_23 : decode c_V_findTaker 23 = .ok (.getfield 29, 3) := by decide +kernel
theorem d_V_findTaker_26 : decode c_V_findTaker 26 = .ok (.iload_n 2, 1) := by decide +kernel
theorem d_V_findTaker_27 : decode c_V_findTaker 27 = .ok (.invokevirtual 77, 3) := by decide +kernel
theorem d_V_findTaker_30 : decode c_V_findTaker 30 = .ok (.ifCond .eq 5, 3) := by decide +kernel
theorem d_V_findTaker_33 : decode c_V_findTaker 33 = .ok (.iload_n 2, 1) := by decide +kernel
theorem d_V_findTaker_34 : decode c_V_findTaker 34 = .ok (.ireturn, 1) := by decide +kernel
theorem d_V_findTaker_35 : decode c_V_findTaker 35 = .ok (.iinc 2 1, 3) := by decide +kernel
theorem d_V_findTaker_38 : decode c_V_findTaker 38 = .ok (.goto (-22), 3) := by decide +kernel
theorem d_V_findTaker_41 : decode c_V_findTaker 41 = .ok (.aload_n 0, 1) := by decide +kernel
theorem d_V_findTaker_42 : decode c_V_findTaker 42 = .ok (.getfield 44, 3) := by decide +kernel
theorem d_V_findTaker_45 : decode c_V_findTaker 45 = .ok (.iconst (-1), 1) := by decide +kernel
theorem d_V_findTaker_46 : decode c_V_findTaker 46 = .ok (.if_icmp .ne 7, 3) := by decide +kernel
theorem d_V_findTaker_49 : decode c_V_findTaker 49 = .ok (.iconst 5, 1) := by decide +kernel
theorem d_V_findTaker_50 : decode c_V_findTaker 50 = .ok (.goto 4, 3) := by decide +kernel
theorem d_V_findTaker_53 : decode c_V_findTaker 53 = .ok (.iconst 4, 1) := by decide +kernel
theorem d_V_findTaker_54 : decode c_V_findTaker 54 = .ok (.ireturn, 1) := by decide +kernel
theorem d_V_leastStemOver_0 : decode c_V_leastStemOver 0 = .ok (.aload_n 0, 1) := by decide +kernel
theorem d_V_leastStemOver_1 : decode c_V_leastStemOver 1 = .ok (.getfield 51, 3) := by decide +kernel
theorem d_V_leastStemOver_4 : decode c_V_leastStemOver 4 = .ok (.iconst 3, 1) := by decide +kernel
theorem d_V_leastStemOver_5 : decode c_V_leastStemOver 5 = .ok (.if_icmp .gt 12, 3) := by decide +kernel
theorem d_V_leastStemOver_8 : decode c_V_leastStemOver 8 = .ok (.aload_n 0, 1) := by decide +kernel
theorem d_V_leastStemOver_9 : decode c_V_leastStemOver 9 = .ok (.getfield 9, 3) := by decide +kernel
theorem d_V_leastStemOver_12 : decode c_V_leastStemOver 12 = .ok (.iload_n 1, 1) := by decide +kernel
theorem d_V_leastStemOver_13 : decode c_V_leastStemOver 13 = .ok (.baload, 1) := by decide +kernel
theorem d_V_leastStemOver_14 : decode c_V_leastStemOver 14 = .ok (.ifCond .ne 5, 3) := by decide +kernel
theorem d_V_leastStemOver_17 : decode c_V_leastStemOver 17 = .ok (.iconst (-1), 1) := by decide +kernel
theorem d_V_leastStemOver_18 : decode c_V_leastStemOver 18 = .ok (.ireturn, 1) := by decide +kernel
theorem d_V_leastStemOver_19 : decode c_V_leastStemOver 19 = .ok (.iconst 0, 1) := by decide +kernel
theorem d_V_leastStemOver_20 : decode c_V_leastStemOver 20 = .ok (.istore_n 2, 1) := by decide +kernel
theorem d_V_leastStemOver_21 : decode c_V_leastStemOver 21 = .ok (.iload_n 2, 1) := by decide +kernel
theorem d_V_leastStemOver_22 : decode c_V_leastStemOver 22 = .ok (.iload_n 1, 1) := by decide +kernel
theorem d_V_leastStemOver_23 : decode c_V_leastStemOver 23 = .ok (.if_icmp .gt 28, 3) := by decide +kernel
theorem d_V_leastStemOver_26 : decode c_V_leastStemOver 26 = .ok (.aload_n 0, 1) := by decide +kernel
theorem d_V_leastStemOver_27 : decode c_V_leastStemOver 27 = .ok (.iload_n 2, 1) := by decide +kernel
theorem d_V_leastStemOver_28 : decode c_V_leastStemOver 28 = .ok (.invokevirtual 80, 3) := by decide +kernel
theorem d_V_leastStemOver_31 : decode c_V_leastStemOver 31 = .ok (.ifCond .eq 14, 3) := by decide +kernel
theorem d_V_leastStemOver_34 : decode c_V_leastStemOver 34 = .ok (.aload_n 0, 1) := by decide +kernel
theorem d_V_leastStemOver_35 : decode c_V_leastStemOver 35 = .ok (.iload_n 2, 1) := by decide +kernel
theorem d_V_leastStemOver_36 : decode c_V_leastStemOver 36 = .ok (.iload_n 1, 1) := by decide +kernel
theorem d_V_leastStemOver_37 : decode c_V_leastStemOver 37 = .ok (.invokevirtual 84, 3) := by decide +kernel
theorem d_V_leastStemOver_40 : decode c_V_leastStemOver 40 = .ok (.ifCond .eq 5, 3) := by decide +kernel
theorem d_V_leastStemOver_43 : decode c_V_leastStemOver 43 = .ok (.iload_n 2, 1) := by decide +kernel
theorem d_V_leastStemOver_44 : decode c_V_leastStemOver 44 = .ok (.ireturn, 1) := by decide +kernel
theorem d_V_leastStemOver_45 : decode c_V_leastStemOver 45 = .ok (.iinc 2 1, 3) := by decide +kernel
theorem d_V_leastStemOver_48 : decode c_V_leastStemOver 48 = .ok (.goto (-27), 3) := by decide +kernel
theorem d_V_leastStemOver_51 : decode c_V_leastStemOver 51 = .ok (.iconst (-1), 1) := by decide +kernel
theorem d_V_leastStemOver_52 : decode c_V_leastStemOver 52 = .ok (.ireturn, 1) := by decide +kernel
theorem d_V_beginsOrder_0 : decode c_V_beginsOrder 0 = .ok (.aload_n 0, 1) := by decide +kernel
theorem d_V_beginsOrder_1 : decode c_V_beginsOrder 1 = .ok (.getfield 51, 3) := by decide +kernel
theorem d_V_beginsOrder_4 : decode c_V_beginsOrder 4 = .ok (.ifCond .ne 18, 3) := by decide +kernel
theorem d_V_beginsOrder_7 : decode c_V_beginsOrder 7 = .ok (.aload_n 0, 1) := by decide +kernel
theorem d_V_beginsOrder_8 : decode c_V_beginsOrder 8 = .ok (.getfield 25, 3) := by decide +kernel
theorem d_V_beginsOrder_11 : decode c_V_beginsOrder 11 = .ok (.iload_n 1, 1) := by decide +kernel
theorem d_V_beginsOrder_12 : decode c_V_beginsOrder 12 = .ok (.aload_n 0, 1) := by decide +kernel
theorem d_V_beginsOrder_13 : decode c_V_beginsOrder 13 = .ok (.getfield 29, 3) := by decide +kernel
theorem d_V_beginsOrder_16 : decode c_V_beginsOrder 16 = .ok (.invokevirtual 87, 3) := by decide +kernel
theorem d_V_beginsOrder_19 : decode c_V_beginsOrder 19 = .ok (.goto 19, 3) := by decide +kernel
theorem d_V_beginsOrder_22 : decode c_V_beginsOrder 22 = .ok (.aload_n 0, 1) := by decide +kernel
theorem d_V_beginsOrder_23 : decode c_V_beginsOrder 23 = .ok (.getfield 25, 3) := by decide +kernel
theorem d_V_beginsOrder_26 : decode c_V_beginsOrder 26 = .ok (.iload_n 1, 1) := by decide +kernel
theorem d_V_beginsOrder_27 : decode c_V_beginsOrder 27 = .ok (.aload_n 0, 1) := by decide +kernel
theorem d_V_beginsOrder_28 : decode c_V_beginsOrder 28 = .ok (.getfield 29, 3) := by decide +kernel
theorem d_V_beginsOrder_31 : decode c_V_beginsOrder 31 = .ok (.aload_n 0, 1) := by decide +kernel
theorem d_V_beginsOrder_32 : decode c_V_beginsOrder 32 = .ok (.getfield 51, 3) := by decide +kernel
theorem d_V_beginsOrder_35 : decode c_V_beginsOrder 35 = .ok (.invokestatic 90, 3) := by decide +kernel
theorem d_V_beginsOrder_38 : decode c_V_beginsOrder 38 = .ok (.ireturn, 1) := by decide +kernel
theorem d_V_isAncestor_0 : decode c_V_isAncestor 0 = .ok (.iload_n 2, 1) := by decide +kernel
theorem d_V_isAncestor_1 : decode c_V_isAncestor 1 = .ok (.iconst (-1), 1) := by decide +kernel
theorem d_V_isAncestor_2 : decode c_V_isAncestor 2 = .ok (.if_icmp .eq 7, 3) := by decide +kernel
theorem d_V_isAncestor_5 : decode c_V_isAncestor 5 = .ok (.iload_n 3, 1) := by decide +kernel
theorem d_V_isAncestor_6 : decode c_V_isAncestor 6 = .ok (.ifCond .gt 14, 3) := by decide +kernel
theorem d_V_isAncestor_9 : decode c_V_isAncestor 9 = .ok (.iload_n 2, 1) := by decide +kernel
theorem d_V_isAncestor_10 : decode c_V_isAncestor 10 = .ok (.iload_n 1, 1) := by decide +kernel
theorem d_V_isAncestor_11 : decode c_V_isAncestor 11 = .ok (.if_icmp .ne 7, 3) := by decide +kernel
theorem d_V_isAncestor_14 : decode c_V_isAncestor 14 = .ok (.iconst 1, 1) := by decide +kernel
theorem d_V_isAncestor_15 : decode c_V_isAncestor 15 = .ok (.goto 4, 3) := by decide +kernel
theorem d_V_isAncestor_18 : decode c_V_isAncestor 18 = .ok (.iconst 0, 1) := by decide +kernel
theorem d_V_isAncestor_19 : decode c_V_isAncestor 19 = .ok (.ireturn, 1) := by decide +kernel
theorem d_V_isAncestor_20 : decode c_V_isAncestor 20 = .ok (.aload_n 0, 1) := by decide +kernel
theorem d_V_isAncestor_21 : decode c_V_isAncestor 21 = .ok (.iload_n 1, 1) := by decide +kernel
theorem d_V_isAncestor_22 : decode c_V_isAncestor 22 = .ok (.aload_n 0, 1) := by decide +kernel
theorem d_V_isAncestor_23 : decode c_V_isAncestor 23 = .ok (.getfield 67, 3) := by decide +kernel
theorem d_V_isAncestor_26 : decode c_V_isAncestor 26 = .ok (.iload_n 2, 1) := by decide +kernel
theorem d_V_isAncestor_27 : decode c_V_isAncestor 27 = .ok (.iaload, 1) := by decide +kernel
theorem d_V_isAncestor_28 : decode c_V_isAncestor 28 = .ok (.iload_n 3, 1) := by decide +kernel
theorem d_V_isAncestor_29 : decode c_V_isAncestor 29 = .ok (.iconst 1, 1) := by decide +kernel
theorem d_V_isAncestor_30 : decode c_V_isAncestor 30 = .ok (.isub, 1) := by decide +kernel
theorem d_V_isAncestor_31 : decode c_V_isAncestor 31 = .ok (.invokestatic 90, 3) := by decide +kernel
theorem d_V_isAncestor_34 : decode c_V_isAncestor 34 = .ok (.ifCond .ne 20, 3) := by decide +kernel
theorem d_V_isAncestor_37 : decode c_V_isAncestor 37 = .ok (.aload_n 0, 1) := by decide +kernel
theorem d_V_isAncestor_38 : decode c_V_isAncestor 38 = .ok (.iload_n 1, 1) := by decide +kernel
theorem d_V_isAncestor_39 : decode c_V_isAncestor 39 = .ok (.aload_n 0, 1) := by decide +kernel
theorem d_V_isAncestor_40 : decode c_V_isAncestor 40 = .ok (.getfield 74, 3) := by decide +kernel
theorem d_V_isAncestor_43 : decode c_V_isAncestor 43 = .ok (.iload_n 2, 1) := by decide +kernel
theorem d_V_isAncestor_44 : decode c_V_isAncestor 44 = .ok (.iaload, 1) := by decide +kernel
theorem d_V_isAncestor_45 : decode c_V_isAncestor 45 = .ok (.iload_n 3, 1) := by decide +kernel
theorem d_V_isAncestor_46 : decode c_V_isAncestor 46 = .ok (.iconst 1, 1) := by decide +kernel
theorem d_V_isAncestor_47 : decode c_V_isAncestor 47 = .ok (.isub, 1) := by decide +kernel
theorem d_V_isAncestor_48 : decode c_V_isAncestor 48 = .ok (.invokestatic 90, 3) := by decide +kernel
theorem d_V_isAncestor_51 : decode c_V_isAncestor 51 = .ok (.ifCond .eq 7, 3) := by decide +kernel
theorem d_V_isAncestor_54 : decode c_V_isAncestor 54 = .ok (.iconst 1, 1) := by decide +kernel
theorem d_V_isAncestor_55 : decode c_V_isAncestor 55 = .ok (.goto 4, 3) := by decide +kernel
theorem d_V_isAncestor_58 : decode c_V_isAncestor 58 = .ok (.iconst 0, 1) := by decide +kernel
theorem d_V_isAncestor_59 : decode c_V_isAncestor 59 = .ok (.ireturn, 1) := by decide +kernel
theorem d_V_stemReaches_0 : decode c_V_stemReaches 0 = .ok (.iconst 0, 1) := by decide +kernel
theorem d_V_stemReaches_1 : decode c_V_stemReaches 1 = .ok (.istore_n 3, 1) := by decide +kernel
theorem d_V_stemReaches_2 : decode c_V_stemReaches 2 = .ok (.iload_n 3, 1) := by decide +kernel
theorem d_V_stemReaches_3 : decode c_V_stemReaches 3 = .ok (.iload_n 2, 1) := by decide +kernel
theorem d_V_stemReaches_4 : decode c_V_stemReaches 4 = .ok (.if_icmp .gt 57, 3) := by decide +kernel
theorem d_V_stemReaches_7 : decode c_V_stemReaches 7 = .ok (.aload_n 0, 1) := by decide +kernel
theorem d_V_stemReaches_8 : decode c_V_stemReaches 8 = .ok (.getfield 22, 3) := by decide +kernel
theorem d_V_stemReaches_11 : decode c_V_stemReaches 11 = .ok (.iload_n 3, 1) := by decide +kernel
theorem d_V_stemReaches_12 : decode c_V_stemReaches 12 = .ok (.iload_n 3, 1) := by decide +kernel
theorem d_V_stemReaches_13 : decode c_V_stemReaches 13 = .ok (.iload_n 1, 1) := by decide +kernel
theorem d_V_stemReaches_14 : decode c_V_stemReaches 14 = .ok (.if_icmp .eq 35, 3) := by decide +kernel
theorem d_V_stemReaches_17 : decode c_V_stemReaches 17 = .ok (.aload_n 0, 1) := by decide +kernel
theorem d_V_stemReaches_18 : decode c_V_stemReaches 18 = .ok (.aload_n 0, 1) := by decide +kernel
theorem d_V_stemReaches_19 : decode c_V_stemReaches 19 = .ok (.getfield 25, 3) := by decide +kernel
theorem d_V_stemReaches_22 : decode c_V_stemReaches 22 = .ok (.getfield 67, 3) := by decide +kernel
theorem d_V_stemReaches_25 : decode c_V_stemReaches 25 = .ok (.iload_n 3, 1) := by decide +kernel
theorem d_V_stemReaches_26 : decode c_V_stemReaches 26 = .ok (.iaload, 1) := by decide +kernel
theorem d_V_stemReaches_27 : decode c_V_stemReaches 27 = .ok (.invokevirtual 94, 3) := by decide +kernel
theorem d_V_stemReaches_30 : decode c_V_stemReaches 30 = .ok (.ifCond .ne 19, 3) := by decide +kernel
theorem d_V_stemReaches_33 : decode c_V_stemReaches 33 = .ok (.aload_n 0, 1) := by decide +kernel
theorem d_V_stemReaches_34 : decode c_V_stemReaches 34 = .ok (.aload_n 0, 1) := by decide +kernel
theorem d_V_stemReaches_35 : decode c_V_stemReaches 35 = .ok (.getfield 25, 3) := by decide +kernel
theorem d_V_stemReaches_38 : decode c_V_stemReaches 38 = .ok (.getfield 74, 3) := by decide +kernel
theorem d_V_stemReaches_41 : decode c_V_stemReaches 41 = .ok (.iload_n 3, 1) := by decide +kernel
theorem d_V_stemReaches_42 : decode c_V_stemReaches 42 = .ok (.iaload, 1) := by decide +kernel
theorem d_V_stemReaches_43 : decode c_V_stemReaches 43 = .ok (.invokevirtual 94, 3) := by decide +kernel
theorem d_V_stemReaches_46 : decode c_V_stemReaches 46 = .ok (.ifCond .eq 7, 3) := by decide +kernel
theorem d_V_stemReaches_49 : decode c_V_stemReaches 49 = .ok (.iconst 1, 1) := by decide +kernel
theorem d_V_stemReaches_50 : decode c_V_stemReaches 50 = .ok (.goto 4, 3) := by decide +kernel
theorem d_V_stemReaches_53 : decode c_V_stemReaches 53 = .ok (.iconst 0, 1) := by decide +kernel
theorem d_V_stemReaches_54 : decode c_V_stemReaches 54 = .ok (.bastore, 1) := by decide +kernel
theorem d_V_stemReaches_55 : decode c_V_stemReaches 55 = .ok (.iinc 3 1, 3) := by decide +kernel
theorem d_V_stemReaches_58 : decode c_V_stemReaches 58 = .ok (.goto (-56), 3) := by decide +kernel
theorem d_V_stemReaches_61 : decode c_V_stemReaches 61 = .ok (.aload_n 0, 1) := by decide +kernel
theorem d_V_stemReaches_62 : decode c_V_stemReaches 62 = .ok (.getfield 22, 3) := by decide +kernel
theorem d_V_stemReaches_65 : decode c_V_stemReaches 65 = .ok (.iload_n 2, 1) := by decide +kernel
theorem d_V_stemReaches_66 : decode c_V_stemReaches 66 = .ok (.baload, 1) := by decide +kernel
theorem d_V_stemReaches_67 : decode c_V_stemReaches 67 = .ok (.ireturn, 1) := by decide +kernel
theorem d_V_passesOn_0 : decode c_V_passesOn 0 = .ok (.iload_n 1, 1) := by decide +kernel
theorem d_V_passesOn_1 : decode c_V_passesOn 1 = .ok (.iconst (-1), 1) := by decide +kernel
theorem d_V_passesOn_2 : decode c_V_passesOn 2 = .ok (.if_icmp .eq 25, 3) := by decide +kernel
theorem d_V_passesOn_5 : decode c_V_passesOn 5 = .ok (.aload_n 0, 1) := by decide +kernel
theorem d_V_passesOn_6 : decode c_V_passesOn 6 = .ok (.getfield 22, 3) := by decide +kernel
theorem d_V_passesOn_9 : decode c_V_passesOn 9 = .ok (.iload_n 1, 1) := by decide +kernel
theorem d_V_passesOn_10 : decode c_V_passesOn 10 = .ok (.baload, 1) := by decide +kernel
theorem d_V_passesOn_11 : decode c_V_passesOn 11 = .ok (.ifCond .eq 16, 3) := by decide +kernel
theorem d_V_passesOn_14 : decode c_V_passesOn 14 = .ok (.aload_n 0, 1) := by decide +kernel
theorem d_V_passesOn_15 : decode c_V_passesOn 15 = .ok (.getfield 9, 3) := by decide +kernel
theorem d_V_passesOn_18 : decode c_V_passesOn 18 = .ok (.iload_n 1, 1) := by decide +kernel
theorem d_V_passesOn_19 : decode c_V_passesOn 19 = .ok (.baload, 1) := by decide +kernel
theorem d_V_passesOn_20 : decode c_V_passesOn 20 = .ok (.ifCond .ne 7, 3) := by decide +kernel
theorem d_V_passesOn_23 : decode c_V_passesOn 23 = .ok (.iconst 1, 1) := by decide +kernel
theorem d_V_passesOn_24 : decode c_V_passesOn 24 = .ok (.goto 4, 3) := by decide +kernel
theorem d_V_passesOn_27 : decode c_V_passesOn 27 = .ok (.iconst 0, 1) := by decide +kernel
theorem d_V_passesOn_28 : decode c_V_passesOn 28 = .ok (.ireturn, 1) := by decide +kernel
theorem d_A_fillI_0 : decode c_A_fillI 0 = .ok (.iconst 0, 1) := by decide +kernel
theorem d_A_fillI_1 : decode c_A_fillI 1 = .ok (.istore_n 2, 1) := by decide +kernel
theorem d_A_fillI_2 : decode c_A_fillI 2 = .ok (.aload_n 0, 1) := by decide +kernel
theorem d_A_fillI_3 : decode c_A_fillI 3 = .ok (.arraylength, 1) := by decide +kernel
theorem d_A_fillI_4 : decode c_A_fillI 4 = .ok (.istore_n 3, 1) := by decide +kernel
theorem d_A_fillI_5 : decode c_A_fillI 5 = .ok (.iload_n 2, 1) := by decide +kernel
theorem d_A_fillI_6 : decode c_A_fillI 6 = .ok (.iload_n 3, 1) := by decide +kernel
theorem d_A_fillI_7 : decode c_A_fillI 7 = .ok (.if_icmp .ge 13, 3) := by decide +kernel
theorem d_A_fillI_10 : decode c_A_fillI 10 = .ok (.aload_n 0, 1) := by decide +kernel
theorem d_A_fillI_11 : decode c_A_fillI 11 = .ok (.iload_n 2, 1) := by decide +kernel
theorem d_A_fillI_12 : decode c_A_fillI 12 = .ok (.iload_n 1, 1) := by decide +kernel
theorem d_A_fillI_13 : decode c_A_fillI 13 = .ok (.iastore, 1) := by decide +kernel
theorem d_A_fillI_14 : decode c_A_fillI 14 = .ok (.iinc 2 1, 3) := by decide +kernel
theorem d_A_fillI_17 : decode c_A_fillI 17 = .ok (.goto (-12), 3) := by decide +kernel
theorem d_A_fillI_20 : decode c_A_fillI 20 = .ok (.return_, 1) := by decide +kernel
theorem d_A_fillJ_0 : decode c_A_fillJ 0 = .ok (.iconst 0, 1) := by decide +kernel
theorem d_A_fillJ_1 : decode c_A_fillJ 1 = .ok (.istore_n 3, 1) := by decide +kernel
theorem d_A_fillJ_2 : decode c_A_fillJ 2 = .ok (.aload_n 0, 1) := by decide +kernel
theorem d_A_fillJ_3 : decode c_A_fillJ 3 = .ok (.arraylength, 1) := by decide +kernel
theorem d_A_fillJ_4 : decode c_A_fillJ 4 = .ok (.istore 4, 2) := by decide +kernel
theorem d_A_fillJ_6 : decode c_A_fillJ 6 = .ok (.iload_n 3, 1) := by decide +kernel
theorem d_A_fillJ_7 : decode c_A_fillJ 7 = .ok (.iload 4, 2) := by decide +kernel
theorem d_A_fillJ_9 : decode c_A_fillJ 9 = .ok (.if_icmp .ge 13, 3) := by decide +kernel
theorem d_A_fillJ_12 : decode c_A_fillJ 12 = .ok (.aload_n 0, 1) := by decide +kernel
theorem d_A_fillJ_13 : decode c_A_fillJ 13 = .ok (.iload_n 3, 1) := by decide +kernel
theorem d_A_fillJ_14 : decode c_A_fillJ 14 = .ok (.lload_n 1, 1) := by decide +kernel
theorem d_A_fillJ_15 : decode c_A_fillJ 15 = .ok (.lastore, 1) := by decide +kernel
theorem d_A_fillJ_16 : decode c_A_fillJ 16 = .ok (.iinc 3 1, 3) := by decide +kernel
theorem d_A_fillJ_19 : decode c_A_fillJ 19 = .ok (.goto (-13), 3) := by decide +kernel
theorem d_A_fillJ_22 : decode c_A_fillJ 22 = .ok (.return_, 1) := by decide +kernel
