theorem d_D_init_0 : decode c_D_init 0 = .ok (.aload_n 0, 1) := by decide +kernel
theorem d_D_init_1 : decode c_D_init 1 = .ok (.invokespecial 3, 3) := by decide +kernel
theorem d_D_init_4 : decode c_D_init 4 = .ok (.aload_n 0, 1) := by decide +kernel
theorem d_D_init_5 : decode c_D_init 5 = .ok (.bipush 20, 2) := by decide +kernel
theorem d_D_init_7 : decode c_D_init 7 = .ok (.newarray .long, 2) := by decide +kernel
theorem d_D_init_9 : decode c_D_init 9 = .ok (.putfield 9, 3) := by decide +kernel
theorem d_D_init_12 : decode c_D_init 12 = .ok (.aload_n 0, 1) := by decide +kernel
theorem d_D_init_13 : decode c_D_init 13 = .ok (.lconst 1, 1) := by decide +kernel
theorem d_D_init_14 : decode c_D_init 14 = .ok (.putfield 15, 3) := by decide +kernel
theorem d_D_init_17 : decode c_D_init 17 = .ok (.aload_n 0, 1) := by decide +kernel
theorem d_D_init_18 : decode c_D_init 18 = .ok (.bipush 20, 2) := by decide +kernel
theorem d_D_init_20 : decode c_D_init 20 = .ok (.newarray .long, 2) := by decide +kernel
theorem d_D_init_22 : decode c_D_init 22 = .ok (.putfield 19, 3) := by decide +kernel
theorem d_D_init_25 : decode c_D_init 25 = .ok (.aload_n 0, 1) := by decide +kernel
theorem d_D_init_26 : decode c_D_init 26 = .ok (.bipush 20, 2) := by decide +kernel
theorem d_D_init_28 : decode c_D_init 28 = .ok (.newarray .long, 2) := by decide +kernel
theorem d_D_init_30 : decode c_D_init 30 = .ok (.putfield 22, 3) := by decide +kernel
theorem d_D_init_33 : decode c_D_init 33 = .ok (.aload_n 0, 1) := by decide +kernel
theorem d_D_init_34 : decode c_D_init 34 = .ok (.aload_n 1, 1) := by decide +kernel
theorem d_D_init_35 : decode c_D_init 35 = .ok (.putfield 25, 3) := by decide +kernel
theorem d_D_init_38 : decode c_D_init 38 = .ok (.aload_n 0, 1) := by decide +kernel
theorem d_D_init_39 : decode c_D_init 39 = .ok (.aload_n 2, 1) := by decide +kernel
theorem d_D_init_40 : decode c_D_init 40 = .ok (.putfield 29, 3) := by decide +kernel
theorem d_D_init_43 : decode c_D_init 43 = .ok (.aload_n 0, 1) := by decide +kernel
theorem d_D_init_44 : decode c_D_init 44 = .ok (.new 33, 3) := by decide +kernel
theorem d_D_init_47 : decode c_D_init 47 = .ok (.dup, 1) := by decide +kernel
theorem d_D_init_48 : decode c_D_init 48 = .ok (.aload_n 1, 1) := by decide +kernel
theorem d_D_init_49 : decode c_D_init 49 = .ok (.aload_n 2, 1) := by decide +kernel
theorem d_D_init_50 : decode c_D_init 50 = .ok (.invokespecial 35, 3) := by decide +kernel
theorem d_D_init_53 : decode c_D_init 53 = .ok (.putfield 38, 3) := by decide +kernel
theorem d_D_init_56 : decode c_D_init 56 = .ok (.return_, 1) := by decide +kernel
theorem d_D_divideByShares_0 : decode c_D_divideByShares 0 = .ok (.ldc2_w 42, 3) := by decide +kernel
theorem d_D_divideByShares_3 : decode c_D_divideByShares 3 = .ok (.aload_n 0, 1) := by decide +kernel
theorem d_D_divideByShares_4 : decode c_D_divideByShares 4 = .ok (.invokevirtual 44, 3) := by decide +kernel
theorem d_D_divideByShares_7 : decode c_D_divideByShares 7 = .ok (.lmul, 1) := by decide +kernel
theorem d_D_divideByShares_8 : decode c_D_divideByShares 8 = .ok (.lstore_n 3, 1) := by decide +kernel
theorem d_D_divideByShares_9 : decode c_D_divideByShares 9 = .ok (.aload_n 0, 1) := by decide +kernel
theorem d_D_divideByShares_10 : decode c_D_divideByShares 10 = .ok (.ldc2_w 48, 3) := by decide +kernel
theorem d_D_divideByShares_13 : decode c_D_divideByShares 13 = .ok (.lload_n 3, 1) := by decide +kernel
theorem d_D_divideByShares_14 : decode c_D_divideByShares 14 = .ok (.lmul, 1) := by decide +kernel
theorem d_D_divideByShares_15 : decode c_D_divideByShares 15 = .ok (.lload_n 1, 1) := by decide +kernel
theorem d_D_divideByShares_16 : decode c_D_divideByShares 16 = .ok (.lload_n 3, 1) := by decide +kernel
theorem d_D_divideByShares_17 : decode c_D_divideByShares 17 = .ok (.lmul, 1) := by decide +kernel
theorem d_D_divideByShares_18 : decode c_D_divideByShares 18 = .ok (.invokevirtual 50, 3) := by decide +kernel
theorem d_D_divideByShares_21 : decode c_D_divideByShares 21 = .ok (.aload_n 0, 1) := by decide +kernel
theorem d_D_divideByShares_22 : decode c_D_divideByShares 22 = .ok (.getfield 29, 3) := by decide +kernel
theorem d_D_divideByShares_25 : decode c_D_divideByShares 25 = .ok (.getfield 54, 3) := by decide +kernel
theorem d_D_divideByShares_28 : decode c_D_divideByShares 28 = .ok (.iconst 3, 1) := by decide +kernel
theorem d_D_divideByShares_29 : decode c_D_divideByShares 29 = .ok (.if_icmp .gt 44, 3) := by decide +kernel
theorem d_D_divideByShares_32 : decode c_D_divideByShares 32 = .ok (.aload_n 0, 1) := by decide +kernel
theorem d_D_divideByShares_33 : decode c_D_divideByShares 33 = .ok (.getfield 19, 3) := by decide +kernel
theorem d_D_divideByShares_36 : decode c_D_divideByShares 36 = .ok (.aload_n 0, 1) := by decide +kernel
theorem d_D_divideByShares_37 : decode c_D_divideByShares 37 = .ok (.getfield 29, 3) := by decide +kernel
theorem d_D_divideByShares_40 : decode c_D_divideByShares 40 = .ok (.getfield 60, 3) := by decide +kernel
theorem d_D_divideByShares_43 : decode c_D_divideByShares 43 = .ok (.lload_n 1, 1) := by decide +kernel
theorem d_D_divideByShares_44 : decode c_D_divideByShares 44 = .ok (.lload_n 3, 1) := by decide +kernel
theorem d_D_divideByShares_45 : decode c_D_divideByShares 45 = .ok (.lmul, 1) := by decide +kernel
theorem d_D_divideByShares_46 : decode c_D_divideByShares 46 = .ok (.iconst 4, 1) := by decide +kernel
theorem d_D_divideByShares_47 : decode c_D_divideByShares 47 = .ok (.aload_n 0, 1) := by decide +kernel
theorem d_D_divideByShares_48 : decode c_D_divideByShares 48 = .ok (.getfield 29, 3) := by decide +kernel
theorem d_D_divideByShares_51 : decode c_D_divideByShares 51 = .ok (.invokevirtual 63, 3) := by decide +kernel
theorem d_D_divideByShares_54 : decode c_D_divideByShares 54 = .ok (.isub, 1) := by decide +kernel
theorem d_D_divideByShares_55 : decode c_D_divideByShares 55 = .ok (.i2l, 1) := by decide +kernel
theorem d_D_divideByShares_56 : decode c_D_divideByShares 56 = .ok (.lmul, 1) := by decide +kernel
theorem d_D_divideByShares_57 : decode c_D_divideByShares 57 = .ok (.lastore, 1) := by decide +kernel
theorem d_D_divideByShares_58 : decode c_D_divideByShares 58 = .ok (.aload_n 0, 1) := by decide +kernel
theorem d_D_divideByShares_59 : decode c_D_divideByShares 59 = .ok (.aload_n 0, 1) := by decide +kernel
theorem d_D_divideByShares_60 : decode c_D_divideByShares 60 = .ok (.getfield 29, 3) := by decide +kernel
theorem d_D_divideByShares_63 : decode c_D_divideByShares 63 = .ok (.getfield 54, 3) := by decide +kernel
theorem d_D_divideByShares_66 : decode c_D_divideByShares 66 = .ok (.invokevirtual 67, 3) := by decide +kernel
theorem d_D_divideByShares_69 : decode c_D_divideByShares 69 = .ok (.aload_n 0, 1) := by decide +kernel
theorem d_D_divideByShares_70 : decode c_D_divideByShares 70 = .ok (.invokevirtual 71, 3) := by decide +kernel
theorem d_D_divideByShares_73 : decode c_D_divideByShares 73 = .ok (.return_, 1) := by decide +kernel
theorem d_D_divideWithGifts_0 : decode c_D_divideWithGifts 0 = .ok (.aload_n 0, 1) := by decide +kernel
theorem d_D_divideWithGifts_1 : decode c_D_divideWithGifts 1 = .ok (.getfield 38, 3) := by decide +kernel
theorem d_D_divideWithGifts_4 : decode c_D_divideWithGifts 4 = .ok (.lload_n 1, 1) := by decide +kernel
theorem d_D_divideWithGifts_5 : decode c_D_divideWithGifts 5 = .ok (.iconst 4, 1) := by decide +kernel
theorem d_D_divideWithGifts_6 : decode c_D_divideWithGifts 6 = .ok (.aload_n 0, 1) := by decide +kernel
theorem d_D_divideWithGifts_7 : decode c_D_divideWithGifts 7 = .ok (.getfield 29, 3) := by decide +kernel
theorem d_D_divideWithGifts_10 : decode c_D_divideWithGifts 10 = .ok (.invokevirtual 63, 3) := by decide +kernel
theorem d_D_divideWithGifts_13 : decode c_D_divideWithGifts 13 = .ok (.isub, 1) := by decide +kernel
theorem d_D_divideWithGifts_14 : decode c_D_divideWithGifts 14 = .ok (.i2l, 1) := by decide +kernel
theorem d_D_divideWithGifts_15 : decode c_D_divideWithGifts 15 = .ok (.lmul, 1) := by decide +kernel
theorem d_D_divideWithGifts_16 : decode c_D_divideWithGifts 16 = .ok (.invokevirtual 74, 3) := by decide +kernel
theorem d_D_divideWithGifts_19 : decode c_D_divideWithGifts 19 = .ok (.aload_n 0, 1) := by decide +kernel
theorem d_D_divideWithGifts_20 : decode c_D_divideWithGifts 20 = .ok (.getfield 38, 3) := by decide +kernel
theorem d_D_divideWithGifts_23 : decode c_D_divideWithGifts 23 = .ok (.invokevirtual 78, 3) := by decide +kernel
theorem d_D_divideWithGifts_26 : decode c_D_divideWithGifts 26 = .ok (.aload_n 0, 1) := by decide +kernel
theorem d_D_divideWithGifts_27 : decode c_D_divideWithGifts 27 = .ok (.invokevirtual 44, 3) := by decide +kernel
theorem d_D_divideWithGifts_30 : decode c_D_divideWithGifts 30 = .ok (.lstore_n 3, 1) := by decide +kernel
theorem d_D_divideWithGifts_31 : decode c_D_divideWithGifts 31 = .ok (.lload_n 3, 1) := by decide +kernel
theorem d_D_divideWithGifts_32 : decode c_D_divideWithGifts 32 = .ok (.aload_n 0, 1) := by decide +kernel
theorem d_D_divideWithGifts_33 : decode c_D_divideWithGifts 33 = .ok (.getfield 38, 3) := by decide +kernel
theorem d_D_divideWithGifts_36 : decode c_D_divideWithGifts 36 = .ok (.getfield 81, 3) := by decide +kernel
theorem d_D_divideWithGifts_39 : decode c_D_divideWithGifts 39 = .ok (.i2l, 1) := by decide +kernel
theorem d_D_divideWithGifts_40 : decode c_D_divideWithGifts 40 = .ok (.lmul, 1) := by decide +kernel
theorem d_D_divideWithGifts_41 : decode c_D_divideWithGifts 41 = .ok (.lstore 5, 2) := by decide +kernel
theorem d_D_divideWithGifts_43 : decode c_D_divideWithGifts 43 = .ok (.aload_n 0, 1) := by decide +kernel
theorem d_D_divideWithGifts_44 : decode c_D_divideWithGifts 44 = .ok (.ldc2_w 48, 3) := by decide +kernel
theorem d_D_divideWithGifts_47 : decode c_D_divideWithGifts 47 = .ok (.lload 5, 2) := by decide +kernel
theorem d_D_divideWithGifts_49 : decode c_D_divideWithGifts 49 = .ok (.lmul, 1) := by decide +kernel
theorem d_D_divideWithGifts_50 : decode c_D_divideWithGifts 50 = .ok (.lload_n 1, 1) := by decide +kernel
theorem d_D_divideWithGifts_51 : decode c_D_divideWithGifts 51 = .ok (.lload 5, 2) := by decide +kernel
theorem d_D_divideWithGifts_53 : decode c_D_divideWithGifts 53 = .ok (.lmul, 1) := by decide +kernel
theorem d_D_divideWithGifts_54 : decode c_D_divideWithGifts 54 = .ok (.invokevirtual 50, 3) := by decide +kernel
theorem d_D_divideWithGifts_57 : decode c_D_divideWithGifts 57 = .ok (.iconst 0, 1) := by decide +kernel
theorem d_D_divideWithGifts_58 : decode c_D_divideWithGifts 58 = .ok (.istore 7, 2) := by decide +kernel
theorem d_D_divideWithGifts_60 : decode c_D_divideWithGifts 60 = .ok (.iload 7, 2) := by decide +kernel
theorem d_D_divideWithGifts_62 : decode c_D_divideWithGifts 62 = .ok (.aload_n 0, 1) := by decide +kernel
theorem d_D_divideWithGifts_63 : decode c_D_divideWithGifts 63 = .ok (.getfield 25, 3) := by decide +kernel
theorem d_D_divideWithGifts_66 : decode c_D_divideWithGifts 66 = .ok (.getfield 84, 3) := by decide +kernel
theorem d_D_divideWithGifts_69 : decode c_D_divideWithGifts 69 = .ok (.if_icmp .ge 40, 3) := by decide +kernel
theorem d_D_divideWithGifts_72 : decode c_D_divideWithGifts 72 = .ok (.aload_n 0, 1) := by decide +kernel
theorem d_D_divideWithGifts_73 : decode c_D_divideWithGifts 73 = .ok (.getfield 38, 3) := by decide +kernel
theorem d_D_divideWithGifts_76 : decode c_D_divideWithGifts 76 = .ok (.getfield 89, 3) := by decide +kernel
theorem d_D_divideWithGifts_79 : decode c_D_divideWithGifts 79 = .ok (.iload 7, 2) := by decide +kernel
theorem d_D_divideWithGifts_81 : decode c_D_divideWithGifts 81 = .ok (.baload, 1) := by decide +kernel
theorem d_D_divideWithGifts_82 : decode c_D_divideWithGifts 82 = .ok (.ifCond .eq 21, 3) := by decide +kernel
theorem d_D_divideWithGifts_85 : decode c_D_divideWithGifts 85 = .ok (.aload_n 0, 1) := by decide +kernel
theorem d_D_divideWithGifts_86 : decode c_D_divideWithGifts 86 = .ok (.getfield 19, 3) := by decide +kernel
theorem d_D_divideWithGifts_89 : decode c_D_divideWithGifts 89 = .ok (.iload 7, 2) := by decide +kernel
theorem d_D_divideWithGifts_91 : decode c_D_divideWithGifts 91 = .ok (.aload_n 0, 1) := by decide +kernel
theorem d_D_divideWithGifts_92 : decode c_D_divideWithGifts 92 = .ok (.getfield 38, 3) := by decide +kernel
theorem d_D_divideWithGifts_95 : decode c_D_divideWithGifts 95 = .ok (.iload 7, 2) := by decide +kernel
theorem d_D_divideWithGifts_97 : decode c_D_divideWithGifts 97 = .ok (.invokevirtual 93, 3) := by decide +kernel
theorem d_D_divideWithGifts_100 : decode c_D_divideWithGifts 100 = .ok (.lload_n 3, 1) := by decide +kernel
theorem d_D_divideWithGifts_101 : decode c_D_divideWithGifts 101 = .ok (.lmul, 1) := by decide +kernel
theorem d_D_divideWithGifts_102 : decode c_D_divideWithGifts 102 = .ok (.lastore, 1) := by decide +kernel
theorem d_D_divideWithGifts_103 : decode c_D_divideWithGifts 103 = .ok (.iinc 7 1, 3) := by decide +kernel
theorem d_D_divideWithGifts_106 : decode c_D_divideWithGifts 106 = .ok (.goto (-46), 3) := by decide +kernel
theorem d_D_divideWithGifts_109 : decode c_D_divideWithGifts 109 = .ok (.aload_n 0, 1) := by decide +kernel
theorem d_D_divideWithGifts_110 : decode c_D_divideWithGifts 110 = .ok (.invokevirtual 71, 3) := by decide +kernel
theorem d_D_divideWithGifts_113 : decode c_D_divideWithGifts 113 = .ok (.return_, 1) := by decide +kernel
theorem d_D_branchProduct_0 : decode c_D_branchProduct 0 = .ok (.lconst 1, 1) := by decide +kernel
theorem d_D_branchProduct_1 : decode c_D_branchProduct 1 = .ok (.lstore_n 1, 1) := by decide +kernel
theorem d_D_branchProduct_2 : decode c_D_branchProduct 2 = .ok (.iconst 0, 1) := by decide +kernel
theorem d_D_branchProduct_3 : decode c_D_branchProduct 3 = .ok (.istore_n 3, 1) := by decide +kernel
theorem d_D_branchProduct_4 : decode c_D_branchProduct 4 = .ok (.iload_n 3, 1) := by decide +kernel
theorem d_D_branchProduct_5 : decode c_D_branchProduct 5 = .ok (.aload_n 0, 1) := by decide +kernel
theorem d_D_branchProduct_6 : decode c_D_branchProduct 6 = .ok (.getfield 25, 3) := by decide +kernel
theorem d_D_branchProduct_9 : decode c_D_branchProduct 9 = .ok (.getfield 84, 3) := by decide +kernel
theorem d_D_branchProduct_12 : decode c_D_branchProduct 12 = .ok (.if_icmp .ge 46, 3) := by decide +kernel
theorem d_D_branchProduct_15 : decode c_D_branchProduct 15 = .ok (.aload_n 0, 1) := by decide +kernel
theorem d_D_branchProduct_16 : decode c_D_branchProduct 16 = .ok (.getfield 29, 3) := by decide +kernel
theorem d_D_branchProduct_19 : decode c_D_branchProduct 19 = .ok (.getfield 97, 3) := by decide +kernel
theorem d_D_branchProduct_22 : decode c_D_branchProduct 22 = .ok (.iload_n 3, 1) := by decide +kernel
theorem d_D_branchProduct_23 : decode c_D_branchProduct 23 = .ok (.baload, 1) := by decide +kernel
theorem d_D_branchProduct_24 : decode c_D_branchProduct 24 = .ok (.ifCond .ne 28, 3) := by decide +kernel
theorem d_D_branchProduct_27 : decode c_D_branchProduct 27 = .ok (.aload_n 0, 1) := by decide +kernel
theorem d_D_branchProduct_28 : decode c_D_branchProduct 28 = .ok (.getfield 29, 3) := by decide +kernel
theorem d_D_branchProduct_31 : decode c_D_branchProduct 31 = .ok (.getfield 100, 3) := by decide +kernel
theorem d_D_branchProduct_34 : decode c_D_branchProduct 34 = .ok (.iload_n 3, 1) := by decide +kernel
theorem d_D_branchProduct_35 : decode c_D_branchProduct 35 = .ok (.iaload, 1) := by decide +kernel
theorem d_D_branchProduct_36 : decode c_D_branchProduct 36 = .ok (.ifCond .le 16, 3) := by decide +kernel
theorem d_D_branchProduct_39 : decode c_D_branchProduct 39 = .ok (.lload_n 1, 1) := by decide +kernel
theorem d_D_branchProduct_40 : decode c_D_branchProduct 40 = .ok (.aload_n 0, 1) := by decide +kernel
theorem d_D_branchProduct_41 : decode c_D_branchProduct 41 = .ok (.getfield 29, 3) := by decide +kernel
theorem d_D_branchProduct_44 : decode c_D_branchProduct 44 = .ok (.getfield 100, 3) := by decide +kernel
theorem d_D_branchProduct_47 : decode c_D_branchProduct 47 = .ok (.iload_n 3, 1) := by decide +kernel
theorem d_D_branchProduct_48 : decode c_D_branchProduct 48 = .ok (.iaload, 1) := by decide +kernel
theorem d_D_branchProduct_49 : decode c_D_branchProduct 49 = .ok (.i2l, 1) := by decide +kernel
theorem d_D_branchProduct_50 : decode c_D_branchProduct 50 = .ok (.lmul, 1) := by decide +kernel
theorem d_D_branchProduct_51 : decode c_D_branchProduct 51 = .ok (.lstore_n 1, 1) := by decide +kernel
theorem d_D_branchProduct_52 : decode c_D_branchProduct 52 = .ok (.iinc 3 1, 3) := by decide +kernel
theorem d_D_branchProduct_55 : decode c_D_branchProduct 55 = .ok (.goto (-51), 3) := by decide +kernel
theorem d_D_branchProduct_58 : decode c_D_branchProduct 58 = .ok (.lload_n 1, 1) := by decide +kernel
theorem d_D_branchProduct_59 : decode c_D_branchProduct 59 = .ok (.lreturn, 1) := by decide +kernel
theorem d_D_startWith_0 : decode c_D_startWith 0 = .ok (.aload_n 0, 1) := by decide +kernel
theorem d_D_startWith_1 : decode c_D_startWith 1 = .ok (.lload_n 1, 1) := by decide +kernel
theorem d_D_startWith_2 : decode c_D_startWith 2 = .ok (.putfield 15, 3) := by decide +kernel
theorem d_D_startWith_5 : decode c_D_startWith 5 = .ok (.aload_n 0, 1) := by decide +kernel
theorem d_D_startWith_6 : decode c_D_startWith 6 = .ok (.getfield 19, 3) := by decide +kernel
theorem d_D_startWith_9 : decode c_D_startWith 9 = .ok (.lconst 0, 1) := by decide +kernel
theorem d_D_startWith_10 : decode c_D_startWith 10 = .ok (.invokestatic 104, 3) := by decide +kernel
theorem d_D_startWith_13 : decode c_D_startWith 13 = .ok (.aload_n 0, 1) := by decide +kernel
theorem d_D_startWith_14 : decode c_D_startWith 14 = .ok (.getfield 9, 3) := by decide +kernel
theorem d_D_startWith_17 : decode c_D_startWith 17 = .ok (.lconst 0, 1) := by decide +kernel
theorem d_D_startWith_18 : decode c_D_startWith 18 = .ok (.invokestatic 104, 3) := by decide +kernel
theorem d_D_startWith_21 : decode c_D_startWith 21 = .ok (.aload_n 0, 1) := by decide +kernel
theorem d_D_startWith_22 : decode c_D_startWith 22 = .ok (.getfield 29, 3) := by decide +kernel
theorem d_D_startWith_25 : decode c_D_startWith 25 = .ok (.getfield 110, 3) := by decide +kernel
theorem d_D_startWith_28 : decode c_D_startWith 28 = .ok (.iconst (-1), 1) := by decide +kernel
theorem d_D_startWith_29 : decode c_D_startWith 29 = .ok (.if_icmp .eq 25, 3) := by decide +kernel
theorem d_D_startWith_32 : decode c_D_startWith 32 = .ok (.aload_n 0, 1) := by decide +kernel
theorem d_D_startWith_33 : decode c_D_startWith 33 = .ok (.getfield 9, 3) := by decide +kernel
theorem d_D_startWith_36 : decode c_D_startWith 36 = .ok (.aload_n 0, 1) := by decide +kernel
theorem d_D_startWith_37 : decode c_D_startWith 37 = .ok (.getfield 29, 3) := by decide +kernel
theorem d_D_startWith_40 : decode c_D_startWith 40 = .ok (.getfield 110, 3) := by decide +kernel
theorem d_D_startWith_43 : decode c_D_startWith 43 = .ok (.lload_n 3, 1) := by decide +kernel
theorem d_D_startWith_44 : decode c_D_startWith 44 = .ok (.aload_n 0, 1) := by decide +kernel
theorem d_D_startWith_45 : decode c_D_startWith 45 = .ok (.getfield 29, 3) := by decide +kernel
theorem d_D_startWith_48 : decode c_D_startWith 48 = .ok (.invokevirtual 63, 3) := by decide +kernel
theorem d_D_startWith_51 : decode c_D_startWith 51 = .ok (.i2l, 1) := by decide +kernel
theorem d_D_startWith_52 : decode c_D_startWith 52 = .ok (.lmul, 1) := by decide +kernel
theorem d_D_startWith_53 : decode c_D_startWith 53 = .ok (.lastore, 1) := by decide +kernel
theorem d_D_startWith_54 : decode c_D_startWith 54 = .ok (.return_, 1) := by decide +kernel
theorem d_D_raiseParts_0 : decode c_D_raiseParts 0 = .ok (.iload_n 1, 1) := by decide +kernel
theorem d_D_raiseParts_1 : decode c_D_raiseParts 1 = .ok (.iconst 1, 1) := by decide +kernel
theorem d_D_raiseParts_2 : decode c_D_raiseParts 2 = .ok (.isub, 1) := by decide +kernel
theorem d_D_raiseParts_3 : decode c_D_raiseParts 3 = .ok (.istore_n 2, 1) := by decide +kernel
theorem d_D_raiseParts_4 : decode c_D_raiseParts 4 = .ok (.iload_n 2, 1) := by decide +kernel
theorem d_D_raiseParts_5 : decode c_D_raiseParts 5 = .ok (.ifCond .lt 68, 3) := by decide +kernel
theorem d_D_raiseParts_8 : decode c_D_raiseParts 8 = .ok (.aload_n 0, 1) := by decide +kernel
theorem d_D_raiseParts_9 : decode c_D_raiseParts 9 = .ok (.getfield 22, 3) := by decide +kernel
theorem d_D_raiseParts_12 : decode c_D_raiseParts 12 = .ok (.lconst 0, 1) := by decide +kernel
theorem d_D_raiseParts_13 : decode c_D_raiseParts 13 = .ok (.invokestatic 104, 3) := by decide +kernel
theorem d_D_raiseParts_16 : decode c_D_raiseParts 16 = .ok (.iconst 0, 1) := by decide +kernel
theorem d_D_raiseParts_17 : decode c_D_raiseParts 17 = .ok (.istore_n 3, 1) := by decide +kernel
theorem d_D_raiseParts_18 : decode c_D_raiseParts 18 = .ok (.iload_n 3, 1) := by decide +kernel
theorem d_D_raiseParts_19 : decode c_D_raiseParts 19 = .ok (.aload_n 0, 1) := by decide +kernel
theorem d_D_raiseParts_20 : decode c_D_raiseParts 20 = .ok (.getfield 25, 3) := by decide +kernel
theorem d_D_raiseParts_23 : decode c_D_raiseParts 23 = .ok (.getfield 84, 3) := by decide +kernel
theorem d_D_raiseParts_26 : decode c_D_raiseParts 26 = .ok (.if_icmp .ge 26, 3) := by decide +kernel
theorem d_D_raiseParts_29 : decode c_D_raiseParts 29 = .ok (.aload_n 0, 1) := by decide +kernel
theorem d_D_raiseParts_30 : decode c_D_raiseParts 30 = .ok (.getfield 19, 3) := by decide +kernel
theorem d_D_raiseParts_33 : decode c_D_raiseParts 33 = .ok (.iload_n 3, 1) := by decide +kernel
theorem d_D_raiseParts_34 : decode c_D_raiseParts 34 = .ok (.laload, 1) := by decide +kernel
theorem d_D_raiseParts_35 : decode c_D_raiseParts 35 = .ok (.lconst 0, 1) := by decide +kernel
theorem d_D_raiseParts_36 : decode c_D_raiseParts 36 = .ok (.lcmp, 1) := by decide +kernel
theorem d_D_raiseParts_37 : decode c_D_raiseParts 37 = .ok (.ifCond .le 9, 3) := by decide +kernel
theorem d_D_raiseParts_40 : decode c_D_raiseParts 40 = .ok (.aload_n 0, 1) := by decide +kernel
theorem d_D_raiseParts_41 : decode c_D_raiseParts 41 = .ok (.iload_n 3, 1) := by decide +kernel
theorem d_D_raiseParts_42 : decode c_D_raiseParts 42 = .ok (.iload_n 2, 1) := by decide +kernel
theorem d_D_raiseParts_43 : decode c_D_raiseParts 43 = .ok (.invokevirtual 113, 3) := by decide +kernel
theorem d_D_raiseParts_46 : decode c_D_raiseParts 46 = .ok (.iinc 3 1, 3) := by decide +kernel
theorem d_D_raiseParts_49 : decode c_D_raiseParts 49 = .ok (.goto (-31), 3) := by decide +kernel
theorem d_D_raiseParts_52 : decode c_D_raiseParts 52 = .ok (.aload_n 0, 1) := by decide +kernel
theorem d_D_raiseParts_53 : decode c_D_raiseParts 53 = .ok (.getfield 22, 3) := by decide +kernel
theorem d_D_raiseParts_56 : decode c_D_raiseParts 56 = .ok (.iconst 0, 1) := by decide +kernel
theorem d_D_raiseParts_57 : decode c_D_raiseParts 57 = .ok (.aload_n 0, 1) := by decide +kernel
theorem d_D_raiseParts_58 : decode c_D_raiseParts 58 = .ok (.getfield 19, 3) := by decide +kernel
theorem d_D_raiseParts_61 : decode c_D_raiseParts 61 = .ok (.iconst 0, 1) := by decide +kernel
theorem d_D_raiseParts_62 : decode c_D_raiseParts 62 = .ok (.bipush 20, 2) := by decide +kernel
theorem d_D_raiseParts_64 : decode c_D_raiseParts 64 = .ok (.invokestatic 117, 3) := by decide +kernel
theorem d_D_raiseParts_67 : decode c_D_raiseParts 67 = .ok (.iinc 2 (-1), 3) := by decide +kernel
theorem d_D_raiseParts_70 : decode c_D_raiseParts 70 = .ok (.goto (-66), 3) := by decide +kernel
theorem d_D_raiseParts_73 : decode c_D_raiseParts 73 = .ok (.return_, 1) := by decide +kernel
theorem d_D_raisePart_0 : decode c_D_raisePart 0 = .ok (.aload_n 0, 1) := by decide +kernel
theorem d_D_raisePart_1 : decode c_D_raisePart 1 = .ok (.getfield 25, 3) := by decide +kernel
theorem d_D_raisePart_4 : decode c_D_raisePart 4 = .ok (.getfield 123, 3) := by decide +kernel
theorem d_D_raisePart_7 : decode c_D_raisePart 7 = .ok (.iload_n 1, 1) := by decide +kernel
theorem d_D_raisePart_8 : decode c_D_raisePart 8 = .ok (.iaload, 1) := by decide +kernel
theorem d_D_raisePart_9 : decode c_D_raisePart 9 = .ok (.istore_n 3, 1) := by decide +kernel
theorem d_D_raisePart_10 : decode c_D_raisePart 10 = .ok (.aload_n 0, 1) := by decide +kernel
theorem d_D_raisePart_11 : decode c_D_raisePart 11 = .ok (.getfield 25, 3) := by decide +kernel
theorem d_D_raisePart_14 : decode c_D_raisePart 14 = .ok (.getfield 126, 3) := by decide +kernel
theorem d_D_raisePart_17 : decode c_D_raisePart 17 = .ok (.iload_n 1, 1) := by decide +kernel
theorem d_D_raisePart_18 : decode c_D_raisePart 18 = .ok (.iaload, 1) := by decide +kernel
theorem d_D_raisePart_19 : decode c_D_raisePart 19 = .ok (.istore 4, 2) := by decide +kernel
theorem d_D_raisePart_21 : decode c_D_raisePart 21 = .ok (.aload_n 0, 1) := by decide +kernel
theorem d_D_raisePart_22 : decode c_D_raisePart 22 = .ok (.getfield 29, 3) := by decide +kernel
theorem d_D_raisePart_25 : decode c_D_raisePart 25 = .ok (.iload_n 3, 1) := by decide +kernel
theorem d_D_raisePart_26 : decode c_D_raisePart 26 = .ok (.iload_n 2, 1) := by decide +kernel
theorem d_D_raisePart_27 : decode c_D_raisePart 27 = .ok (.invokevirtual 129, 3) := by decide +kernel
theorem d_D_raisePart_30 : decode c_D_raisePart 30 = .ok (.istore 5, 2) := by decide +kernel
theorem d_D_raisePart_32 : decode c_D_raisePart 32 = .ok (.aload_n 0, 1) := by decide +kernel
theorem d_D_raisePart_33 : decode c_D_raisePart 33 = .ok (.getfield 29, 3) := by decide +kernel
theorem d_D_raisePart_36 : decode c_D_raisePart 36 = .ok (.iload 4, 2) := by decide +kernel
theorem d_D_raisePart_38 : decode c_D_raisePart 38 = .ok (.iload_n 2, 1) := by decide +kernel
theorem d_D_raisePart_39 : decode c_D_raisePart 39 = .ok (.invokevirtual 129, 3) := by decide +kernel
theorem d_D_raisePart_42 : decode c_D_raisePart 42 = .ok (.istore 6, 2) := by decide +kernel
theorem d_D_raisePart_44 : decode c_D_raisePart 44 = .ok (.iload 5, 2) := by decide +kernel
theorem d_D_raisePart_46 : decode c_D_raisePart 46 = .ok (.ifCond .eq 21, 3) := by decide +kernel
theorem d_D_raisePart_49 : decode c_D_raisePart 49 = .ok (.iload 6, 2) := by decide +kernel
theorem d_D_raisePart_51 : decode c_D_raisePart 51 = .ok (.ifCond .eq 16, 3) := by decide +kernel
theorem d_D_raisePart_54 : decode c_D_raisePart 54 = .ok (.aload_n 0, 1) := by decide +kernel
theorem d_D_raisePart_55 : decode c_D_raisePart 55 = .ok (.getfield 19, 3) := by decide +kernel
theorem d_D_raisePart_58 : decode c_D_raisePart 58 = .ok (.iload_n 1, 1) := by decide +kernel
theorem d_D_raisePart_59 : decode c_D_raisePart 59 = .ok (.laload, 1) := by decide +kernel
theorem d_D_raisePart_60 : decode c_D_raisePart 60 = .ok (.ldc2_w 133, 3) := by decide +kernel
theorem d_D_raisePart_63 : decode c_D_raisePart 63 = .ok (.ldiv, 1) := by decide +kernel
theorem d_D_raisePart_64 : decode c_D_raisePart 64 = .ok (.goto 9, 3) := by decide +kernel
theorem d_D_raisePart_67 : decode c_D_raisePart 67 = .ok (.aload_n 0, 1) := by decide +kernel
theorem d_D_raisePart_68 : decode c_D_raisePart 68 = .ok (.getfield 19, 3) := by decide +kernel
theorem d_D_raisePart_71 : decode c_D_raisePart 71 = .ok (.iload_n 1, 1) := by decide +kernel
theorem d_D_raisePart_72 : decode c_D_raisePart 72 = .ok (.laload, 1) := by decide +kernel
theorem d_D_raisePart_73 : decode c_D_raisePart 73 = .ok (.lstore 7, 2) := by decide +kernel
theorem d_D_raisePart_75 : decode c_D_raisePart 75 = .ok (.iload 5, 2) := by decide +kernel
theorem d_D_raisePart_77 : decode c_D_raisePart 77 = .ok (.ifCond .eq 14, 3) := by decide +kernel
theorem d_D_raisePart_80 : decode c_D_raisePart 80 = .ok (.aload_n 0, 1) := by decide +kernel
theorem d_D_raisePart_81 : decode c_D_raisePart 81 = .ok (.getfield 22, 3) := by decide +kernel
theorem d_D_raisePart_84 : decode c_D_raisePart 84 = .ok (.iload_n 3, 1) := by decide +kernel
theorem d_D_raisePart_85 : decode c_D_raisePart 85 = .ok (.dup2, 1) := by decide +kernel
theorem d_D_raisePart_86 : decode c_D_raisePart 86 = .ok (.laload, 1) := by decide +kernel
theorem d_D_raisePart_87 : decode c_D_raisePart 87 = .ok (.lload 7, 2) := by decide +kernel
theorem d_D_raisePart_89 : decode c_D_raisePart 89 = .ok (.ladd, 1) := by decide +kernel
theorem d_D_raisePart_90 : decode c_D_raisePart 90 = .ok (.lastore, 1) := by decide +kernel
theorem d_D_raisePart_91 : decode c_D_raisePart 91 = .ok (.iload 6, 2) := by decide +kernel
theorem d_D_raisePart_93 : decode c_D_raisePart 93 = .ok (.ifCond .eq 15, 3) := by decide +kernel
theorem d_D_raisePart_96 : decode c_D_raisePart 96 = .ok (.aload_n 0, 1) := by decide +kernel
theorem d_D_raisePart_97 : decode c_D_raisePart 97 = .ok (.getfield 22, 3) := by decide +kernel
theorem d_D_raisePart_100 : decode c_D_raisePart 100 = .ok (.iload 4, 2) := by decide +kernel
theorem d_D_raisePart_102 : decode c_D_raisePart 102 = .ok (.dup2, 1) := by decide +kernel
theorem d_D_raisePart_103 : decode c_D_raisePart 103 = .ok (.laload, 1) := by decide +kernel
theorem d_D_raisePart_104 : decode c_D_raisePart 104 = .ok (.lload 7, 2) := by decide +kernel
theorem d_D_raisePart_106 : decode c_D_raisePart 106 = .ok (.ladd, 1) := by decide +kernel
theorem d_D_raisePart_107 : decode c_D_raisePart 107 = .ok (.lastore, 1) := by decide +kernel
theorem d_D_raisePart_108 : decode c_D_raisePart 108 = .ok (.return_, 1) := by decide +kernel
theorem d_D_lowerParts_0 : decode c_D_lowerParts 0 = .ok (.iconst 0, 1) := by decide +kernel
theorem d_D_lowerParts_1 : decode c_D_lowerParts 1 = .ok (.istore_n 1, 1) := by decide +kernel
theorem d_D_lowerParts_2 : decode c_D_lowerParts 2 = .ok (.iload_n 1, 1) := by decide +kernel
theorem d_D_lowerParts_3 : decode c_D_lowerParts 3 = .ok (.aload_n 0, 1) := by decide +kernel
theorem d_D_lowerParts_4 : decode c_D_lowerParts 4 = .ok (.getfield 25, 3) := by decide +kernel
theorem d_D_lowerParts_7 : decode c_D_lowerParts 7 = .ok (.getfield 84, 3) := by decide +kernel
theorem d_D_lowerParts_10 : decode c_D_lowerParts 10 = .ok (.if_icmp .ge 84, 3) := by decide +kernel
theorem d_D_lowerParts_13 : decode c_D_lowerParts 13 = .ok (.aload_n 0, 1) := by decide +kernel
theorem d_D_lowerParts_14 : decode c_D_lowerParts 14 = .ok (.getfield 29, 3) := by decide +kernel
theorem d_D_lowerParts_17 : decode c_D_lowerParts 17 = .ok (.getfield 97, 3) := by decide +kernel
theorem d_D_lowerParts_20 : decode c_D_lowerParts 20 = .ok (.iload_n 1, 1) := by decide +kernel
theorem d_D_lowerParts_21 : decode c_D_lowerParts 21 = .ok (.baload, 1) := by decide +kernel
theorem d_D_lowerParts_22 : decode c_D_lowerParts 22 = .ok (.ifCond .eq 21, 3) := by decide +kernel
theorem d_D_lowerParts_25 : decode c_D_lowerParts 25 = .ok (.aload_n 0, 1) := by decide +kernel
theorem d_D_lowerParts_26 : decode c_D_lowerParts 26 = .ok (.getfield 9, 3) := by decide +kernel
theorem d_D_lowerParts_29 : decode c_D_lowerParts 29 = .ok (.iload_n 1, 1) := by decide +kernel
theorem d_D_lowerParts_30 : decode c_D_lowerParts 30 = .ok (.dup2, 1) := by decide +kernel
theorem d_D_lowerParts_31 : decode c_D_lowerParts 31 = .ok (.laload, 1) := by decide +kernel
theorem d_D_lowerParts_32 : decode c_D_lowerParts 32 = .ok (.aload_n 0, 1) := by decide +kernel
theorem d_D_lowerParts_33 : decode c_D_lowerParts 33 = .ok (.getfield 19, 3) := by decide +kernel
theorem d_D_lowerParts_36 : decode c_D_lowerParts 36 = .ok (.iload_n 1, 1) := by decide +kernel
theorem d_D_lowerParts_37 : decode c_D_lowerParts 37 = .ok (.laload, 1) := by decide +kernel
theorem d_D_lowerParts_38 : decode c_D_lowerParts 38 = .ok (.ladd, 1) := by decide +kernel
theorem d_D_lowerParts_39 : decode c_D_lowerParts 39 = .ok (.lastore, 1) := by decide +kernel
theorem d_D_lowerParts_40 : decode c_D_lowerParts 40 = .ok (.goto 48, 3) := by decide +kernel
theorem d_D_lowerParts_43 : decode c_D_lowerParts 43 = .ok (.aload_n 0, 1) := by decide +kernel
theorem d_D_lowerParts_44 : decode c_D_lowerParts 44 = .ok (.getfield 19, 3) := by decide +kernel
theorem d_D_lowerParts_47 : decode c_D_lowerParts 47 = .ok (.iload_n 1, 1) := by decide +kernel
theorem d_D_lowerParts_48 : decode c_D_lowerParts 48 = .ok (.laload, 1) := by decide +kernel
theorem d_D_lowerParts_49 : decode c_D_lowerParts 49 = .ok (.lconst 0, 1) := by decide +kernel
theorem d_D_lowerParts_50 : decode c_D_lowerParts 50 = .ok (.lcmp, 1) := by decide +kernel
theorem d_D_lowerParts_51 : decode c_D_lowerParts 51 = .ok (.ifCond .le 37, 3) := by decide +kernel
theorem d_D_lowerParts_54 : decode c_D_lowerParts 54 = .ok (.aload_n 0, 1) := by decide +kernel
theorem d_D_lowerParts_55 : decode c_D_lowerParts 55 = .ok (.getfield 29, 3) := by decide +kernel
theorem d_D_lowerParts_58 : decode c_D_lowerParts 58 = .ok (.getfield 100, 3) := by decide +kernel
theorem d_D_lowerParts_61 : decode c_D_lowerParts 61 = .ok (.iload_n 1, 1) := by decide +kernel
theorem d_D_lowerParts_62 : decode c_D_lowerParts 62 = .ok (.iaload, 1) := by decide +kernel
theorem d_D_lowerParts_63 : decode c_D_lowerParts 63 = .ok (.ifCond .le 25, 3) := by decide +kernel
theorem d_D_lowerParts_66 : decode c_D_lowerParts 66 = .ok (.aload_n 0, 1) := by decide +kernel
theorem d_D_lowerParts_67 : decode c_D_lowerParts 67 = .ok (.iload_n 1, 1) := by decide +kernel
theorem d_D_lowerParts_68 : decode c_D_lowerParts 68 = .ok (.aload_n 0, 1) := by decide +kernel
theorem d_D_lowerParts_69 : decode c_D_lowerParts 69 = .ok (.getfield 19, 3) := by decide +kernel
theorem d_D_lowerParts_72 : decode c_D_lowerParts 72 = .ok (.iload_n 1, 1) := by decide +kernel
theorem d_D_lowerParts_73 : decode c_D_lowerParts 73 = .ok (.laload, 1) := by decide +kernel
theorem d_D_lowerParts_74 : decode c_D_lowerParts 74 = .ok (.aload_n 0, 1) := by decide +kernel
theorem d_D_lowerParts_75 : decode c_D_lowerParts 75 = .ok (.getfield 29, 3) := by decide +kernel
theorem d_D_lowerParts_78 : decode c_D_lowerParts 78 = .ok (.getfield 100, 3) := by decide +kernel
theorem d_D_lowerParts_81 : decode c_D_lowerParts 81 = .ok (.iload_n 1, 1) := by decide +kernel
theorem d_D_lowerParts_82 : decode c_D_lowerParts 82 = .ok (.iaload, 1) := by decide +kernel
theorem d_D_lowerParts_83 : decode c_D_lowerParts 83 = .ok (.i2l, 1) := by decide +kernel
theorem d_D_lowerParts_84 : decode c_D_lowerParts 84 = .ok (.ldiv, 1) := by decide +kernel
theorem d_D_lowerParts_85 : decode c_D_lowerParts 85 = .ok (.invokevirtual 135, 3) := by decide +kernel
theorem d_D_lowerParts_88 : decode c_D_lowerParts 88 = .ok (.iinc 1 1, 3) := by decide +kernel
theorem d_D_lowerParts_91 : decode c_D_lowerParts 91 = .ok (.goto (-89), 3) := by decide +kernel
theorem d_D_lowerParts_94 : decode c_D_lowerParts 94 = .ok (.return_, 1) := by decide +kernel
theorem d_D_lowerPart_0 : decode c_D_lowerPart 0 = .ok (.iload_n 1, 1) := by decide +kernel
theorem d_D_lowerPart_1 : decode c_D_lowerPart 1 = .ok (.iconst 1, 1) := by decide +kernel
theorem d_D_lowerPart_2 : decode c_D_lowerPart 2 = .ok (.iadd, 1) := by decide +kernel
theorem d_D_lowerPart_3 : decode c_D_lowerPart 3 = .ok (.istore 4, 2) := by decide +kernel
theorem d_D_lowerPart_5 : decode c_D_lowerPart 5 = .ok (.iload 4, 2) := by decide +kernel
theorem d_D_lowerPart_7 : decode c_D_lowerPart 7 = .ok (.aload_n 0, 1) := by decide +kernel
theorem d_D_lowerPart_8 : decode c_D_lowerPart 8 = .ok (.getfield 25, 3) := by decide +kernel
theorem d_D_lowerPart_11 : decode c_D_lowerPart 11 = .ok (.getfield 84, 3) := by decide +kernel
theorem d_D_lowerPart_14 : decode c_D_lowerPart 14 = .ok (.if_icmp .ge 46, 3) := by decide +kernel
theorem d_D_lowerPart_17 : decode c_D_lowerPart 17 = .ok (.aload_n 0, 1) := by decide +kernel
theorem d_D_lowerPart_18 : decode c_D_lowerPart 18 = .ok (.getfield 25, 3) := by decide +kernel
theorem d_D_lowerPart_21 : decode c_D_lowerPart 21 = .ok (.iload 4, 2) := by decide +kernel
theorem d_D_lowerPart_23 : decode c_D_lowerPart 23 = .ok (.iload_n 1, 1) := by decide +kernel
theorem d_D_lowerPart_24 : decode c_D_lowerPart 24 = .ok (.invokevirtual 139, 3) := by decide +kernel
theorem d_D_lowerPart_27 : decode c_D_lowerPart 27 = .ok (.ifCond .eq 27, 3) := by decide +kernel
theorem d_D_lowerPart_30 : decode c_D_lowerPart 30 = .ok (.aload_n 0, 1) := by decide +kernel
theorem d_D_lowerPart_31 : decode c_D_lowerPart 31 = .ok (.getfield 29, 3) := by decide +kernel
theorem d_D_lowerPart_34 : decode c_D_lowerPart 34 = .ok (.iload 4, 2) := by decide +kernel
theorem d_D_lowerPart_36 : decode c_D_lowerPart 36 = .ok (.iconst 0, 1) := by decide +kernel
theorem d_D_lowerPart_37 : decode c_D_lowerPart 37 = .ok (.invokevirtual 129, 3) := by decide +kernel
theorem d_D_lowerPart_40 : decode c_D_lowerPart 40 = .ok (.ifCond .eq 14, 3) := by decide +kernel
theorem d_D_lowerPart_43 : decode c_D_lowerPart 43 = .ok (.aload_n 0, 1) := by decide +kernel
theorem d_D_lowerPart_44 : decode c_D_lowerPart 44 = .ok (.getfield 19, 3) := by decide +kernel
theorem d_D_lowerPart_47 : decode c_D_lowerPart 47 = .ok (.iload 4, 2) := by decide +kernel
theorem d_D_lowerPart_49 : decode c_D_lowerPart 49 = .ok (.dup2, 1) := by decide +kernel
theorem d_D_lowerPart_50 : decode c_D_lowerPart 50 = .ok (.laload, 1) := by decide +kernel
theorem d_D_lowerPart_51 : decode c_D_lowerPart 51 = .ok (.lload_n 2, 1) := by decide +kernel
theorem d_D_lowerPart_52 : decode c_D_lowerPart 52 = .ok (.ladd, 1) := by decide +kernel
theorem d_D_lowerPart_53 : decode c_D_lowerPart 53 = .ok (.lastore, 1) := by decide +kernel
theorem d_D_lowerPart_54 : decode c_D_lowerPart 54 = .ok (.iinc 4 1, 3) := by decide +kernel
theorem d_D_lowerPart_57 : decode c_D_lowerPart 57 = .ok (.goto (-52), 3) := by decide +kernel
theorem d_D_lowerPart_60 : decode c_D_lowerPart 60 = .ok (.return_, 1) := by decide +kernel
theorem d_D_countTakers_0 : decode c_D_countTakers 0 = .ok (.iconst 0, 1) := by decide +kernel
theorem d_D_countTakers_1 : decode c_D_countTakers 1 = .ok (.istore_n 1, 1) := by decide +kernel
theorem d_D_countTakers_2 : decode c_D_countTakers 2 = .ok (.iconst 0, 1) := by decide +kernel
theorem d_D_countTakers_3 : decode c_D_countTakers 3 = .ok (.istore_n 2, 1) := by decide +kernel
theorem d_D_countTakers_4 : decode c_D_countTakers 4 = .ok (.iload_n 2, 1) := by decide +kernel
theorem d_D_countTakers_5 : decode c_D_countTakers 5 = .ok (.aload_n 0, 1) := by decide +kernel
theorem d_D_countTakers_6 : decode c_D_countTakers 6 = .ok (.getfield 25, 3) := by decide +kernel
theorem d_D_countTakers_9 : decode c_D_countTakers 9 = .ok (.getfield 84, 3) := by decide +kernel
theorem d_D_countTakers_12 : decode c_D_countTakers 12 = .ok (.if_icmp .ge 23, 3) := by decide +kernel
theorem d_D_countTakers_15 : decode c_D_countTakers 15 = .ok (.aload_n 0, 1) := by decide +kernel
theorem d_D_countTakers_16 : decode c_D_countTakers 16 = .ok (.getfield 9, 3) := by decide +kernel
theorem d_D_countTakers_19 : decode c_D_countTakers 19 = .ok (.iload_n 2, 1) := by decide +kernel
theorem d_D_countTakers_20 : decode c_D_countTakers 20 = .ok (.laload, 1) := by decide +kernel
theorem d_D_countTakers_21 : decode c_D_countTakers 21 = .ok (.lconst 0, 1) := by decide +kernel
theorem d_D_countTakers_22 : decode c_D_countTakers 22 = .ok (.lcmp, 1) := by decide +kernel
theorem d_D_countTakers_23 : decode c_D_countTakers 23 = .ok (.ifCond .le 6, 3) := by decide +kernel
theorem d_D_countTakers_26 : decode c_D_countTakers 26 = .ok (.iinc 1 1, 3) := by decide +kernel
theorem d_D_countTakers_29 : decode c_D_countTakers 29 = .ok (.iinc 2 1, 3) := by decide +kernel
theorem d_D_countTakers_32 : decode c_D_countTakers 32 = .ok (.goto (-28), 3) := by decide +kernel
theorem d_D_countTakers_35 : decode c_D_countTakers 35 = .ok (.iload_n 1, 1) := by decide +kernel
theorem d_D_countTakers_36 : decode c_D_countTakers 36 = .ok (.ireturn, 1) := by decide +kernel
theorem d_D_takerAt_0 : decode c_D_takerAt 0 = .ok (.iconst 0, 1) := by decide +kernel
theorem d_D_takerAt_1 : decode c_D_takerAt 1 = .ok (.istore_n 2, 1) := by decide +kernel
theorem d_D_takerAt_2 : decode c_D_takerAt 2 = .ok (.iconst 0, 1) := by decide +kernel
theorem d_D_takerAt_3 : decode c_D_takerAt 3 = .ok (.istore_n 3, 1) := by decide +kernel
theorem d_D_takerAt_4 : decode c_D_takerAt 4 = .ok (.iload_n 3, 1) := by decide +kernel
theorem d_D_takerAt_5 : decode c_D_takerAt 5 = .ok (.aload_n 0, 1) := by decide +kernel
theorem d_D_takerAt_6 : decode c_D_takerAt 6 = .ok (.getfield 25, 3) := by decide +kernel
theorem d_D_takerAt_9 : decode c_D_takerAt 9 = .ok (.getfield 84, 3) := by decide +kernel
theorem d_D_takerAt_12 : decode c_D_takerAt 12 = .ok (.if_icmp .ge 30, 3) := by decide +kernel
theorem d_D_takerAt_15 : decode c_D_takerAt 15 = .ok (.aload_n 0, 1) := by decide +kernel
theorem d_D_takerAt_16 : decode c_D_takerAt 16 = .ok (.getfield 9, 3) := by decide +kernel
theorem d_D_takerAt_19 : decode c_D_takerAt 19 = .ok (.iload_n 3, 1) := by decide +kernel
theorem d_D_takerAt_20 : decode c_D_takerAt 20 = .ok (.laload, 1) := by decide +kernel
theorem d_D_takerAt_21 : decode c_D_takerAt 21 = .ok (.lconst 0, 1) := by decide +kernel
theorem d_D_takerAt_22 : decode c_D_takerAt 22 = .ok (.lcmp, 1) := by decide +kernel
theorem d_D_takerAt_23 : decode c_D_takerAt 23 = .ok (.ifCond .le 13, 3) := by decide +kernel
theorem d_D_takerAt_26 : decode c_D_takerAt 26 = .ok (.iload_n 2, 1) := by decide +kernel
theorem d_D_takerAt_27 : decode c_D_takerAt 27 = .ok (.iload_n 1, 1) := by decide +kernel
theorem d_D_takerAt_28 : decode c_D_takerAt 28 = .ok (.if_icmp .ne 5, 3) := by decide +kernel
theorem d_D_takerAt_31 : decode c_D_takerAt 31 = .ok (.iload_n 3, 1) := by decide +kernel
theorem d_D_takerAt_32 : decode c_D_takerAt 32 = .ok (.ireturn, 1) := by decide +kernel
theorem d_D_takerAt_33 : decode c_D_takerAt 33 = .ok (.iinc 2 1, 3) := by decide +kernel
theorem d_D_takerAt_36 : decode c_D_takerAt 36 = .ok (.iinc 3 1, 3) := by decide +kernel
theorem d_D_takerAt_39 : decode c_D_takerAt 39 = .ok (.goto (-35), 3) := by decide +kernel
theorem d_D_takerAt_42 : decode c_D_takerAt 42 = .ok (.iconst (-1), 1) := by decide +kernel
theorem d_D_takerAt_43 : decode c_D_takerAt 43 = .ok (.ireturn, 1) := by decide +kernel
theorem d_D_inLowestTerms_0 : decode c_D_inLowestTerms 0 = .ok (.aload_n 0, 1) := by decide +kernel
theorem d_D_inLowestTerms_1 : decode c_D_inLowestTerms 1 = .ok (.getfield 9, 3) := by decide +kernel
theorem d_D_inLowestTerms_4 : decode c_D_inLowestTerms 4 = .ok (.iload_n 1, 1) := by decide +kernel
theorem d_D_inLowestTerms_5 : decode c_D_inLowestTerms 5 = .ok (.laload, 1) := by decide +kernel
theorem d_D_inLowestTerms_6 : decode c_D_inLowestTerms 6 = .ok (.lconst 0, 1) := by decide +kernel
theorem d_D_inLowestTerms_7 : decode c_D_inLowestTerms 7 = .ok (.lcmp, 1) := by decide +kernel
theorem d_D_inLowestTerms_8 : decode c_D_inLowestTerms 8 = .ok (.ifCond .gt 5, 3) := by decide +kernel
theorem d_D_inLowestTerms_11 : decode c_D_inLowestTerms 11 = .ok (.lconst 0, 1) := by decide +kernel
theorem d_D_inLowestTerms_12 : decode c_D_inLowestTerms 12 = .ok (.lreturn, 1) := by decide +kernel
theorem d_D_inLowestTerms_13 : decode c_D_inLowestTerms 13 = .ok (.aload_n 0, 1) := by decide +kernel
theorem d_D_inLowestTerms_14 : decode c_D_inLowestTerms 14 = .ok (.getfield 9, 3) := by decide +kernel
theorem d_D_inLowestTerms_17 : decode c_D_inLowestTerms 17 = .ok (.iload_n 1, 1) := by decide +kernel
theorem d_D_inLowestTerms_18 : decode c_D_inLowestTerms 18 = .ok (.laload, 1) := by decide +kernel
theorem d_D_inLowestTerms_19 : decode c_D_inLowestTerms 19 = .ok (.aload_n 0, 1) := by decide +kernel
theorem d_D_inLowestTerms_20 : decode c_D_inLowestTerms 20 = .ok (.getfield 15, 3) := by decide +kernel
theorem d_D_inLowestTerms_23 : decode c_D_inLowestTerms 23 = .ok (.invokestatic 142, 3) := by decide +kernel
theorem d_D_inLowestTerms_26 : decode c_D_inLowestTerms 26 = .ok (.lstore_n 2, 1) := by decide +kernel
theorem d_D_inLowestTerms_27 : decode c_D_inLowestTerms 27 = .ok (.lload_n 2, 1) := by decide +kernel
theorem d_D_inLowestTerms_28 : decode c_D_inLowestTerms 28 = .ok (.lconst 0, 1) := by decide +kernel
theorem d_D_inLowestTerms_29 : decode c_D_inLowestTerms 29 = .ok (.lcmp, 1) := by decide +kernel
theorem d_D_inLowestTerms_30 : decode c_D_inLowestTerms 30 = .ok (.ifCond .gt 7, 3) := by decide +kernel
theorem d_D_inLowestTerms_33 : decode c_D_inLowestTerms 33 = .ok (.lconst 0, 1) := by decide +kernel
theorem d_D_inLowestTerms_34 : decode c_D_inLowestTerms 34 = .ok (.goto 21, 3) := by decide +kernel
theorem d_D_inLowestTerms_37 : decode c_D_inLowestTerms 37 = .ok (.aload_n 0, 1) := by decide +kernel
theorem d_D_inLowestTerms_38 : decode c_D_inLowestTerms 38 = .ok (.getfield 9, 3) := by decide +kernel
theorem d_D_inLowestTerms_41 : decode c_D_inLowestTerms 41 = .ok (.iload_n 1, 1) := by decide +kernel
theorem d_D_inLowestTerms_42 : decode c_D_inLowestTerms 42 = .ok (.laload, 1) := by decide +kernel
theorem d_D_inLowestTerms_43 : decode c_D_inLowestTerms 43 = .ok (.lload_n 2, 1) := by decide +kernel
theorem d_D_inLowestTerms_44 : decode c_D_inLowestTerms 44 = .ok (.ldiv, 1) := by decide +kernel
theorem d_D_inLowestTerms_45 : decode c_D_inLowestTerms 45 = .ok (.bipush 32, 2) := by decide +kernel
theorem d_D_inLowestTerms_47 : decode c_D_inLowestTerms 47 = .ok (.lshl, 1) := by decide +kernel
theorem d_D_inLowestTerms_48 : decode c_D_inLowestTerms 48 = .ok (.aload_n 0, 1) := by decide +kernel
theorem d_D_inLowestTerms_49 : decode c_D_inLowestTerms 49 = .ok (.getfield 15, 3) := by decide +kernel
theorem d_D_inLowestTerms_52 : decode c_D_inLowestTerms 52 = .ok (.lload_n 2, 1) := by decide +kernel
theorem d_D_inLowestTerms_53 : decode c_D_inLowestTerms 53 = .ok (.ldiv, 1) := by decide +kernel
theorem d_D_inLowestTerms_54 : decode c_D_inLowestTerms 54 = .ok (.lor, 1) := by decide +kernel
theorem d_D_inLowestTerms_55 : decode c_D_inLowestTerms 55 = .ok (.lreturn, 1) := by decide +kernel
theorem d_D_commonDivisor_0 : decode c_D_commonDivisor 0 = .ok (.lload_n 0, 1) := by decide +kernel
theorem d_D_commonDivisor_1 : decode c_D_commonDivisor 1 = .ok (.lstore 4, 2) := by decide +kernel
theorem d_D_commonDivisor_3 : decode c_D_commonDivisor 3 = .ok (.lload_n 2, 1) := by decide +kernel
theorem d_D_commonDivisor_4 : decode c_D_commonDivisor 4 = .ok (.lstore 6, 2) := by decide +kernel
theorem d_D_commonDivisor_6 : decode c_D_commonDivisor 6 = .ok (.iconst 0, 1) := by decide +kernel
theorem d_D_commonDivisor_7 : decode c_D_commonDivisor 7 = .ok (.istore 8, 2) := by decide +kernel
theorem d_D_commonDivisor_9 : decode c_D_commonDivisor 9 = .ok (.iload 8, 2) := by decide +kernel
theorem d_D_commonDivisor_11 : decode c_D_commonDivisor 11 = .ok (.bipush 100, 2) := by decide +kernel
theorem d_D_commonDivisor_13 : decode c_D_commonDivisor 13 = .ok (.if_icmp .ge 31, 3) := by decide +kernel
theorem d_D_commonDivisor_16 : decode c_D_commonDivisor 16 = .ok (.lload 6, 2) := by decide +kernel
theorem d_D_commonDivisor_18 : decode c_D_commonDivisor 18 = .ok (.lconst 0, 1) := by decide +kernel
theorem d_D_commonDivisor_19 : decode c_D_commonDivisor 19 = .ok (.lcmp, 1) := by decide +kernel
theorem d_D_commonDivisor_20 : decode c_D_commonDivisor 20 = .ok (.ifCond .le 24, 3) := by decide +kernel
theorem d_D_commonDivisor_23 : decode c_D_commonDivisor 23 = .ok (.lload 4, 2) := by decide +kernel
theorem d_D_commonDivisor_25 : decode c_D_commonDivisor 25 = .ok (.lload 6, 2) := by decide +kernel
theorem d_D_commonDivisor_27 : decode c_D_commonDivisor 27 = .ok (.lrem, 1) := by decide +kernel
theorem d_D_commonDivisor_28 : decode c_D_commonDivisor 28 = .ok (.lstore 9, 2) := by decide +kernel
theorem d_D_commonDivisor_30 : decode c_D_commonDivisor 30 = .ok (.lload 6, 2) := by decide +kernel
theorem d_D_commonDivisor_32 : decode c_D_commonDivisor 32 = .ok (.lstore 4, 2) := by decide +kernel
theorem d_D_commonDivisor_34 : decode c_D_commonDivisor 34 = .ok (.lload 9, 2) := by decide +kernel
theorem d_D_commonDivisor_36 : decode c_D_commonDivisor 36 = .ok (.lstore 6, 2) := by decide +kernel
theorem d_D_commonDivisor_38 : decode c_D_commonDivisor 38 = .ok (.iinc 8 1, 3) := by decide +kernel
theorem d_D_commonDivisor_41 : decode c_D_commonDivisor 41 = .ok (.goto (-32), 3) := by decide +kernel
theorem d_D_commonDivisor_44 : decode c_D_commonDivisor 44 = .ok (.lload 4, 2) := by decide +kernel
theorem d_D_commonDivisor_46 : decode c_D_commonDivisor 46 = .ok (.lreturn, 1) := by decide +kernel
theorem d_H_init_0 : decode c_H_init 0 = .ok (.aload_n 0, 1) := by decide +kernel
theorem d_H_init_1 : decode c_H_init 1 = .ok (.invokespecial 3, 3) := by decide +kernel
theorem d_H_init_4 : decode c_H_init 4 = .ok (.aload_n 0, 1) := by decide +kernel
theorem d_H_init_5 : decode c_H_init 5 = .ok (.bipush 20, 2) := by decide +kernel
theorem d_H_init_7 : decode c_H_init 7 = .ok (.newarray .boolean, 2) := by decide +kernel
theorem d_H_init_9 : decode c_H_init 9 = .ok (.putfield 9, 3) := by decide +kernel
theorem d_H_init_12 : decode c_H_init 12 = .ok (.aload_n 0, 1) := by decide +kernel
theorem d_H_init_13 : decode c_H_init 13 = .ok (.bipush 20, 2) := by decide +kernel
theorem d_H_init_15 : decode c_H_init 15 = .ok (.newarray .long, 2) := by decide +kernel
theorem d_H_init_17 : decode c_H_init 17 = .ok (.putfield 15, 3) := by decide +kernel
theorem d_H_init_20 : decode c_H_init 20 = .ok (.aload_n 0, 1) := by decide +kernel
theorem d_H_init_21 : decode c_H_init 21 = .ok (.aload_n 1, 1) := by decide +kernel
theorem d_H_init_22 : decode c_H_init 22 = .ok (.putfield 19, 3) := by decide +kernel
theorem d_H_init_25 : decode c_H_init 25 = .ok (.aload_n 0, 1) := by decide +kernel
theorem d_H_init_26 : decode c_H_init 26 = .ok (.aload_n 2, 1) := by decide +kernel
theorem d_H_init_27 : decode c_H_init 27 = .ok (.putfield 23, 3) := by decide +kernel
theorem d_H_init_30 : decode c_H_init 30 = .ok (.return_, 1) := by decide +kernel
theorem d_H_gather_0 : decode c_H_gather 0 = .ok (.aload_n 0, 1) := by decide +kernel
theorem d_H_gather_1 : decode c_H_gather 1 = .ok (.lload_n 1, 1) := by decide +kernel
theorem d_H_gather_2 : decode c_H_gather 2 = .ok (.putfield 27, 3) := by decide +kernel
theorem d_H_gather_5 : decode c_H_gather 5 = .ok (.aload_n 0, 1) := by decide +kernel
theorem d_H_gather_6 : decode c_H_gather 6 = .ok (.iconst 0, 1) := by decide +kernel
theorem d_H_gather_7 : decode c_H_gather 7 = .ok (.putfield 31, 3) := by decide +kernel
theorem d_H_gather_10 : decode c_H_gather 10 = .ok (.iconst 0, 1) := by decide +kernel
theorem d_H_gather_11 : decode c_H_gather 11 = .ok (.istore_n 3, 1) := by decide +kernel
theorem d_H_gather_12 : decode c_H_gather 12 = .ok (.iload_n 3, 1) := by decide +kernel
theorem d_H_gather_13 : decode c_H_gather 13 = .ok (.aload_n 0, 1) := by decide +kernel
theorem d_H_gather_14 : decode c_H_gather 14 = .ok (.getfield 19, 3) := by decide +kernel
theorem d_H_gather_17 : decode c_H_gather 17 = .ok (.getfield 35, 3) := by decide +kernel
theorem d_H_gather_20 : decode c_H_gather 20 = .ok (.if_icmp .ge 112, 3) := by decide +kernel
theorem d_H_gather_23 : decode c_H_gather 23 = .ok (.aload_n 0, 1) := by decide +kernel
theorem d_H_gather_24 : decode c_H_gather 24 = .ok (.getfield 9, 3) := by decide +kernel
theorem d_H_gather_27 : decode c_H_gather 27 = .ok (.iload_n 3, 1) := by decide +kernel
theorem d_H_gather_28 : decode c_H_gather 28 = .ok (.aload_n 0, 1) := by decide +kernel
theorem d_H_gather_29 : decode c_H_gather 29 = .ok (.getfield 19, 3) := by decide +kernel
theorem d_H_gather_32 : decode c_H_gather 32 = .ok (.iload_n 3, 1) := by decide +kernel
theorem d_H_gather_33 : decode c_H_gather 33 = .ok (.aload_n 0, 1) := by decide +kernel
theorem d_H_gather_34 : decode c_H_gather 34 = .ok (.getfield 23, 3) := by decide +kernel
theorem d_H_gather_37 : decode c_H_gather 37 = .ok (.getfield 40, 3) := by decide +kernel
theorem d_H_gather_40 : decode c_H_gather 40 = .ok (.invokevirtual 45, 3) := by decide +kernel
theorem d_H_gather_43 : decode c_H_gather 43 = .ok (.ifCond .eq 19, 3) := by decide +kernel
theorem d_H_gather_46 : decode c_H_gather 46 = .ok (.aload_n 0, 1) := by decide +kernel
theorem d_H_gather_47 : decode c_H_gather 47 = .ok (.getfield 23, 3) := by decide +kernel
theorem d_H_gather_50 : decode c_H_gather 50 = .ok (.iload_n 3, 1) := by decide +kernel
theorem d_H_gather_51 : decode c_H_gather 51 = .ok (.iconst 0, 1) := by decide +kernel
theorem d_H_gather_52 : decode c_H_gather 52 = .ok (.invokevirtual 49, 3) := by decide +kernel
theorem d_H_gather_55 : decode c_H_gather 55 = .ok (.ifCond .eq 7, 3) := by decide +kernel
theorem d_H_gather_58 : decode c_H_gather 58 = .ok (.iconst 1, 1) := by decide +kernel
theorem d_H_gather_59 : decode c_H_gather 59 = .ok (.goto 4, 3) := by decide +kernel
theorem d_H_gather_62 : decode c_H_gather 62 = .ok (.iconst 0, 1) := by decide +kernel
theorem d_H_gather_63 : decode c_H_gather 63 = .ok (.bastore, 1) := by decide +kernel
theorem d_H_gather_64 : decode c_H_gather 64 = .ok (.aload_n 0, 1) := by decide +kernel
theorem d_H_gather_65 : decode c_H_gather 65 = .ok (.getfield 9, 3) := by decide +kernel
theorem d_H_gather_68 : decode c_H_gather 68 = .ok (.iload_n 3, 1) := by decide +kernel
theorem d_H_gather_69 : decode c_H_gather 69 = .ok (.baload, 1) := by decide +kernel
theorem d_H_gather_70 : decode c_H_gather 70 = .ok (.ifCond .eq 56, 3) := by decide +kernel
theorem d_H_gather_73 : decode c_H_gather 73 = .ok (.aload_n 0, 1) := by decide +kernel
theorem d_H_gather_74 : decode c_H_gather 74 = .ok (.getfield 15, 3) := by decide +kernel
theorem d_H_gather_77 : decode c_H_gather 77 = .ok (.iload_n 3, 1) := by decide +kernel
theorem d_H_gather_78 : decode c_H_gather 78 = .ok (.ldc2_w 52, 3) := by decide +kernel
theorem d_H_gather_81 : decode c_H_gather 81 = .ok (.aload_n 0, 1) := by decide +kernel
theorem d_H_gather_82 : decode c_H_gather 82 = .ok (.getfield 19, 3) := by decide +kernel
theorem d_H_gather_85 : decode c_H_gather 85 = .ok (.getfield 54, 3) := by decide +kernel
theorem d_H_gather_88 : decode c_H_gather 88 = .ok (.iload_n 3, 1) := by decide +kernel
theorem d_H_gather_89 : decode c_H_gather 89 = .ok (.aaload, 1) := by decide +kernel
theorem d_H_gather_90 : decode c_H_gather 90 = .ok (.aload_n 0, 1) := by decide +kernel
theorem d_H_gather_91 : decode c_H_gather 91 = .ok (.getfield 23, 3) := by decide +kernel
theorem d_H_gather_94 : decode c_H_gather 94 = .ok (.getfield 40, 3) := by decide +kernel
theorem d_H_gather_97 : decode c_H_gather 97 = .ok (.iaload, 1) := by decide +kernel
theorem d_H_gather_98 : decode c_H_gather 98 = .ok (.i2l, 1) := by decide +kernel
theorem d_H_gather_99 : decode c_H_gather 99 = .ok (.lmul, 1) := by decide +kernel
theorem d_H_gather_100 : decode c_H_gather 100 = .ok (.lastore, 1) := by decide +kernel
theorem d_H_gather_101 : decode c_H_gather 101 = .ok (.aload_n 0, 1) := by decide +kernel
theorem d_H_gather_102 : decode c_H_gather 102 = .ok (.dup, 1) := by decide +kernel
theorem d_H_gather_103 : decode c_H_gather 103 = .ok (.getfield 27, 3) := by decide +kernel
theorem d_H_gather_106 : decode c_H_gather 106 = .ok (.aload_n 0, 1) := by decide +kernel
theorem d_H_gather_107 : decode c_H_gather 107 = .ok (.getfield 15, 3) := by decide +kernel
theorem d_H_gather_110 : decode c_H_gather 110 = .ok (.iload_n 3, 1) := by decide +kernel
theorem d_H_gather_111 : decode c_H_gather 111 = .ok (.laload, 1) := by decide +kernel
theorem d_H_gather_112 : decode c_H_gather 112 = .ok (.ladd, 1) := by decide +kernel
theorem d_H_gather_113 : decode c_H_gather 113 = .ok (.putfield 27, 3) := by decide +kernel
theorem d_H_gather_116 : decode c_H_gather 116 = .ok (.aload_n 0, 1) := by decide +kernel
theorem d_H_gather_117 : decode c_H_gather 117 = .ok (.dup, 1) := by decide +kernel
theorem d_H_gather_118 : decode c_H_gather 118 = .ok (.getfield 31, 3) := by decide +kernel
theorem d_H_gather_121 : decode c_H_gather 121 = .ok (.iconst 1, 1) := by decide +kernel
theorem d_H_gather_122 : decode c_H_gather 122 = .ok (.iadd, 1) := by decide +kernel
theorem d_H_gather_123 : decode c_H_gather 123 = .ok (.putfield 31, 3) := by decide +kernel
theorem d_H_gather_126 : decode c_H_gather 126 = .ok (.iinc 3 1, 3) := by decide +kernel
theorem d_H_gather_129 : decode c_H_gather 129 = .ok (.goto (-117), 3) := by decide +kernel
theorem d_H_gather_132 : decode c_H_gather 132 = .ok (.return_, 1) := by decide +kernel
theorem d_H_releaseThoseAbove_0 : decode c_H_releaseThoseAbove 0 = .ok (.iconst 0, 1) := by decide +kernel
theorem d_H_releaseThoseAbove_1 : decode c_H_releaseThoseAbove 1 = .ok (.istore_n 1, 1) := by decide +kernel
theorem d_H_releaseThoseAbove_2 : decode c_H_releaseThoseAbove 2 = .ok (.iload_n 1, 1) := by decide +kernel
theorem d_H_releaseThoseAbove_3 : decode c_H_releaseThoseAbove 3 = .ok (.bipush 20, 2) := by decide +kernel
theorem d_H_releaseThoseAbove_5 : decode c_H_releaseThoseAbove 5 = .ok (.if_icmp .ge 52, 3) := by decide +kernel
theorem d_H_releaseThoseAbove_8 : decode c_H_releaseThoseAbove 8 = .ok (.aload_n 0, 1) := by decide +kernel
theorem d_H_releaseThoseAbove_9 : decode c_H_releaseThoseAbove 9 = .ok (.invokevirtual 57, 3) := by decide +kernel
theorem d_H_releaseThoseAbove_12 : decode c_H_releaseThoseAbove 12 = .ok (.istore_n 2, 1) := by decide +kernel
theorem d_H_releaseThoseAbove_13 : decode c_H_releaseThoseAbove 13 = .ok (.iload_n 2, 1) := by decide +kernel
theorem d_H_releaseThoseAbove_14 : decode c_H_releaseThoseAbove 14 = .ok (.iconst (-1), 1) := by decide +kernel
theorem d_H_releaseThoseAbove_15 : decode c_H_releaseThoseAbove 15 = .ok (.if_icmp .ne 4, 3) := by decide +kernel
theorem d_H_releaseThoseAbove_18 : decode c_H_releaseThoseAbove 18 = .ok (.return_, 1) := by decide +kernel
theorem d_H_releaseThoseAbove_19 : decode c_H_releaseThoseAbove 19 = .ok (.aload_n 0, 1) := by decide +kernel
theorem d_H_releaseThoseAbove_20 : decode c_H_releaseThoseAbove 20 = .ok (.getfield 9, 3) := by decide +kernel
theorem d_H_releaseThoseAbove_23 : decode c_H_releaseThoseAbove 23 = .ok (.iload_n 2, 1) := by decide +kernel
theorem d_H_releaseThoseAbove_24 : decode c_H_releaseThoseAbove 24 = .ok (.iconst 0, 1) := by decide +kernel
theorem d_H_releaseThoseAbove_25 : decode c_H_releaseThoseAbove 25 = .ok (.bastore, 1) := by decide +kernel
theorem d_H_releaseThoseAbove_26 : decode c_H_releaseThoseAbove 26 = .ok (.aload_n 0, 1) := by decide +kernel
theorem d_H_releaseThoseAbove_27 : decode c_H_releaseThoseAbove 27 = .ok (.dup, 1) := by decide +kernel
theorem d_H_releaseThoseAbove_28 : decode c_H_releaseThoseAbove 28 = .ok (.getfield 27, 3) := by decide +kernel
theorem d_H_releaseThoseAbove_31 : decode c_H_releaseThoseAbove 31 = .ok (.aload_n 0, 1) := by decide +kernel
theorem d_H_releaseThoseAbove_32 : decode c_H_releaseThoseAbove 32 = .ok (.getfield 15, 3) := by decide +kernel
theorem d_H_releaseThoseAbove_35 : decode c_H_releaseThoseAbove 35 = .ok (.iload_n 2, 1) := by decide +kernel
theorem d_H_releaseThoseAbove_36 : decode c_H_releaseThoseAbove 36 = .ok (.laload, 1) := by decide +kernel
theorem d_H_releaseThoseAbove_37 : decode c_H_releaseThoseAbove 37 = .ok (.lsub, 1) := by decide +kernel
theorem d_H_releaseThoseAbove_38 : decode c_H_releaseThoseAbove 38 = .ok (.putfield 27, 3) := by decide +kernel
theorem d_H_releaseThoseAbove_41 : decode c_H_releaseThoseAbove 41 = .ok (.aload_n 0, 1) := by decide +kernel
theorem d_H_releaseThoseAbove_42 : decode c_H_releaseThoseAbove 42 = .ok (.dup, 1) := by decide +kernel
theorem d_H_releaseThoseAbove_43 : decode c_H_releaseThoseAbove 43 = .ok (.getfield 31, 3) := by decide +kernel
theorem d_H_releaseThoseAbove_46 : decode c_H_releaseThoseAbove 46 = .ok (.iconst 1, 1) := by decide +kernel
theorem d_H_releaseThoseAbove_47 : decode c_H_releaseThoseAbove 47 = .ok (.isub, 1) := by decide +kernel
theorem d_H_releaseThoseAbove_48 : decode c_H_releaseThoseAbove 48 = .ok (.putfield 31, 3) := by decide +kernel
theorem d_H_releaseThoseAbove_51 : decode c_H_releaseThoseAbove 51 = .ok (.iinc 1 1, 3) := by decide +kernel
theorem d_H_releaseThoseAbove_54 : decode c_H_releaseThoseAbove 54 = .ok (.goto (-52), 3) := by decide +kernel
theorem d_H_releaseThoseAbove_57 : decode c_H_releaseThoseAbove 57 = .ok (.return_, 1) := by decide +kernel
theorem d_H_findOneAbove_0 : decode c_H_findOneAbove 0 = .ok (.iconst 0, 1) := by decide +kernel
theorem d_H_findOneAbove_1 : decode c_H_findOneAbove 1 = .ok (.istore_n 1, 1) := by decide +kernel
theorem d_H_findOneAbove_2 : decode c_H_findOneAbove 2 = .ok (.iload_n 1, 1) := by decide +kernel
theorem d_H_findOneAbove_3 : decode c_H_findOneAbove 3 = .ok (.aload_n 0, 1) := by decide +kernel
theorem d_H_findOneAbove_4 : decode c_H_findOneAbove 4 = .ok (.getfield 19, 3) := by decide +kernel
theorem d_H_findOneAbove_7 : decode c_H_findOneAbove 7 = .ok (.getfield 35, 3) := by decide +kernel
theorem d_H_findOneAbove_10 : decode c_H_findOneAbove 10 = .ok (.if_icmp .ge 30, 3) := by decide +kernel
theorem d_H_findOneAbove_13 : decode c_H_findOneAbove 13 = .ok (.aload_n 0, 1) := by decide +kernel
theorem d_H_findOneAbove_14 : decode c_H_findOneAbove 14 = .ok (.getfield 9, 3) := by decide +kernel
theorem d_H_findOneAbove_17 : decode c_H_findOneAbove 17 = .ok (.iload_n 1, 1) := by decide +kernel
theorem d_H_findOneAbove_18 : decode c_H_findOneAbove 18 = .ok (.baload, 1) := by decide +kernel
theorem d_H_findOneAbove_19 : decode c_H_findOneAbove 19 = .ok (.ifCond .eq 15, 3) := by decide +kernel
theorem d_H_findOneAbove_22 : decode c_H_findOneAbove 22 = .ok (.aload_n 0, 1) := by decide +kernel
theorem d_H_findOneAbove_23 : decode c_H_findOneAbove 23 = .ok (.iload_n 1, 1) := by decide +kernel
theorem d_H_findOneAbove_24 : decode c_H_findOneAbove 24 = .ok (.invokevirtual 61, 3) := by decide +kernel
theorem d_H_findOneAbove_27 : decode c_H_findOneAbove 27 = .ok (.lconst 0, 1) := by decide +kernel
theorem d_H_findOneAbove_28 : decode c_H_findOneAbove 28 = .ok (.lcmp, 1) := by decide +kernel
theorem d_H_findOneAbove_29 : decode c_H_findOneAbove 29 = .ok (.ifCond .ge 5, 3) := by decide +kernel
theorem d_H_findOneAbove_32 : decode c_H_findOneAbove 32 = .ok (.iload_n 1, 1) := by decide +kernel
theorem d_H_findOneAbove_33 : decode c_H_findOneAbove 33 = .ok (.ireturn, 1) := by decide +kernel
theorem d_H_findOneAbove_34 : decode c_H_findOneAbove 34 = .ok (.iinc 1 1, 3) := by decide +kernel
theorem d_H_findOneAbove_37 : decode c_H_findOneAbove 37 = .ok (.goto (-35), 3) := by decide +kernel
theorem d_H_findOneAbove_40 : decode c_H_findOneAbove 40 = .ok (.iconst (-1), 1) := by decide +kernel
theorem d_H_findOneAbove_41 : decode c_H_findOneAbove 41 = .ok (.ireturn, 1) := by decide +kernel
theorem d_H_partTimesSize_0 : decode c_H_partTimesSize 0 = .ok (.aload_n 0, 1) := by decide +kernel
theorem d_H_partTimesSize_1 : decode c_H_partTimesSize 1 = .ok (.getfield 27, 3) := by decide +kernel
theorem d_H_partTimesSize_4 : decode c_H_partTimesSize 4 = .ok (.aload_n 0, 1) := by decide +kernel
theorem d_H_partTimesSize_5 : decode c_H_partTimesSize 5 = .ok (.getfield 31, 3) := by decide +kernel
theorem d_H_partTimesSize_8 : decode c_H_partTimesSize 8 = .ok (.i2l, 1) := by decide +kernel
theorem d_H_partTimesSize_9 : decode c_H_partTimesSize 9 = .ok (.aload_n 0, 1) := by decide +kernel
theorem d_H_partTimesSize_10 : decode c_H_partTimesSize 10 = .ok (.getfield 15, 3) := by decide +kernel
theorem d_H_partTimesSize_13 : decode c_H_partTimesSize 13 = .ok (.iload_n 1, 1) := by decide +kernel
theorem d_H_partTimesSize_14 : decode c_H_partTimesSize 14 = .ok (.laload, 1) := by decide +kernel
theorem d_H_partTimesSize_15 : decode c_H_partTimesSize 15 = .ok (.lmul, 1) := by decide +kernel
theorem d_H_partTimesSize_16 : decode c_H_partTimesSize 16 = .ok (.lsub, 1) := by decide +kernel
theorem d_H_partTimesSize_17 : decode c_H_partTimesSize 17 = .ok (.lreturn, 1) := by decide +kernel
theorem d_L_init_0 : decode c_L_init 0 = .ok (.aload_n 0, 1) := by decide +kernel
theorem d_L_init_1 : decode c_L_init 1 = .ok (.invokespecial 3, 3) := by decide +kernel
theorem d_L_init_4 : decode c_L_init 4 = .ok (.aload_n 0, 1) := by decide +kernel
theorem d_L_init_5 : decode c_L_init 5 = .ok (.bipush 20, 2) := by decide +kernel
theorem d_L_init_7 : decode c_L_init 7 = .ok (.bipush 21, 2) := by decide +kernel
theorem d_L_init_9 : decode c_L_init 9 = .ok (.multianewarray 9 2, 4) := by decide +kernel
theorem d_L_init_13 : decode c_L_init 13 = .ok (.putfield 11, 3) := by decide +kernel
theorem d_L_init_16 : decode c_L_init 16 = .ok (.aload_n 0, 1) := by decide +kernel
theorem d_L_init_17 : decode c_L_init 17 = .ok (.bipush 20, 2) := by decide +kernel
theorem d_L_init_19 : decode c_L_init 19 = .ok (.newarray .long, 2) := by decide +kernel
theorem d_L_init_21 : decode c_L_init 21 = .ok (.putfield 16, 3) := by decide +kernel
theorem d_L_init_24 : decode c_L_init 24 = .ok (.aload_n 0, 1) := by decide +kernel
theorem d_L_init_25 : decode c_L_init 25 = .ok (.bipush 21, 2) := by decide +kernel
theorem d_L_init_27 : decode c_L_init 27 = .ok (.newarray .long, 2) := by decide +kernel
theorem d_L_init_29 : decode c_L_init 29 = .ok (.putfield 20, 3) := by decide +kernel
theorem d_L_init_32 : decode c_L_init 32 = .ok (.aload_n 0, 1) := by decide +kernel
theorem d_L_init_33 : decode c_L_init 33 = .ok (.bipush 20, 2) := by decide +kernel
theorem d_L_init_35 : decode c_L_init 35 = .ok (.newarray .boolean, 2) := by decide +kernel
theorem d_L_init_37 : decode c_L_init 37 = .ok (.putfield 23, 3) := by decide +kernel
theorem d_L_init_40 : decode c_L_init 40 = .ok (.aload_n 0, 1) := by decide +kernel
theorem d_L_init_41 : decode c_L_init 41 = .ok (.bipush 20, 2) := by decide +kernel
theorem d_L_init_43 : decode c_L_init 43 = .ok (.newarray .long, 2) := by decide +kernel
theorem d_L_init_45 : decode c_L_init 45 = .ok (.putfield 27, 3) := by decide +kernel
theorem d_L_init_48 : decode c_L_init 48 = .ok (.aload_n 0, 1) := by decide +kernel
theorem d_L_init_49 : decode c_L_init 49 = .ok (.aload_n 1, 1) := by decide +kernel
theorem d_L_init_50 : decode c_L_init 50 = .ok (.putfield 30, 3) := by decide +kernel
theorem d_L_init_53 : decode c_L_init 53 = .ok (.aload_n 0, 1) := by decide +kernel
theorem d_L_init_54 : decode c_L_init 54 = .ok (.aload_n 2, 1) := by decide +kernel
theorem d_L_init_55 : decode c_L_init 55 = .ok (.putfield 34, 3) := by decide +kernel
theorem d_L_init_58 : decode c_L_init 58 = .ok (.aload_n 0, 1) := by decide +kernel
theorem d_L_init_59 : decode c_L_init 59 = .ok (.aload_n 3, 1) := by decide +kernel
theorem d_L_init_60 : decode c_L_init 60 = .ok (.putfield 38, 3) := by decide +kernel
theorem d_L_init_63 : decode c_L_init 63 = .ok (.return_, 1) := by decide +kernel
theorem d_L_settleAll_0 : decode c_L_settleAll 0 = .ok (.aload_n 0, 1) := by decide +kernel
theorem d_L_settleAll_1 : decode c_L_settleAll 1 = .ok (.invokevirtual 42, 3) := by decide +kernel
theorem d_L_settleAll_4 : decode c_L_settleAll 4 = .ok (.iconst 0, 1) := by decide +kernel
theorem d_L_settleAll_5 : decode c_L_settleAll 5 = .ok (.istore_n 1, 1) := by decide +kernel
theorem d_L_settleAll_6 : decode c_L_settleAll 6 = .ok (.iconst 0, 1) := by decide +kernel
theorem d_L_settleAll_7 : decode c_L_settleAll 7 = .ok (.istore_n 2, 1) := by decide +kernel
theorem d_L_settleAll_8 : decode c_L_settleAll 8 = .ok (.iload_n 2, 1) := by decide +kernel
theorem d_L_settleAll_9 : decode c_L_settleAll 9 = .ok (.aload_n 0, 1) := by decide +kernel
theorem d_L_settleAll_10 : decode c_L_settleAll 10 = .ok (.getfield 30, 3) := by decide +kernel
theorem d_L_settleAll_13 : decode c_L_settleAll 13 = .ok (.getfield 45, 3) := by decide +kernel
theorem d_L_settleAll_16 : decode c_L_settleAll 16 = .ok (.if_icmp .ge 36, 3) := by decide +kernel
theorem d_L_settleAll_19 : decode c_L_settleAll 19 = .ok (.aload_n 0, 1) := by decide +kernel
theorem d_L_settleAll_20 : decode c_L_settleAll 20 = .ok (.invokevirtual 51, 3) := by decide +kernel
theorem d_L_settleAll_23 : decode c_L_settleAll 23 = .ok (.istore_n 3, 1) := by decide +kernel
theorem d_L_settleAll_24 : decode c_L_settleAll 24 = .ok (.iload_n 3, 1) := by decide +kernel
theorem d_L_settleAll_25 : decode c_L_settleAll 25 = .ok (.iconst (-1), 1) := by decide +kernel
theorem d_L_settleAll_26 : decode c_L_settleAll 26 = .ok (.if_icmp .ne 5, 3) := by decide +kernel
theorem d_L_settleAll_29 : decode c_L_settleAll 29 = .ok (.iload_n 1, 1) := by decide +kernel
theorem d_L_settleAll_30 : decode c_L_settleAll 30 = .ok (.ireturn, 1) := by decide +kernel
theorem d_L_settleAll_31 : decode c_L_settleAll 31 = .ok (.aload_n 0, 1) := by decide +kernel
theorem d_L_settleAll_32 : decode c_L_settleAll 32 = .ok (.getfield 23, 3) := by decide +kernel
theorem d_L_settleAll_35 : decode c_L_settleAll 35 = .ok (.iload_n 3, 1) := by decide +kernel
theorem d_L_settleAll_36 : decode c_L_settleAll 36 = .ok (.iconst 1, 1) := by decide +kernel
theorem d_L_settleAll_37 : decode c_L_settleAll 37 = .ok (.bastore, 1) := by decide +kernel
theorem d_L_settleAll_38 : decode c_L_settleAll 38 = .ok (.aload_n 0, 1) := by decide +kernel
theorem d_L_settleAll_39 : decode c_L_settleAll 39 = .ok (.iload_n 3, 1) := by decide +kernel
theorem d_L_settleAll_40 : decode c_L_settleAll 40 = .ok (.invokevirtual 55, 3) := by decide +kernel
theorem d_L_settleAll_43 : decode c_L_settleAll 43 = .ok (.iinc 1 1, 3) := by decide +kernel
theorem d_L_settleAll_46 : decode c_L_settleAll 46 = .ok (.iinc 2 1, 3) := by decide +kernel
theorem d_L_settleAll_49 : decode c_L_settleAll 49 = .ok (.goto (-41), 3) := by decide +kernel
theorem d_L_settleAll_52 : decode c_L_settleAll 52 = .ok (.iload_n 1, 1) := by decide +kernel
theorem d_L_settleAll_53 : decode c_L_settleAll 53 = .ok (.ireturn, 1) := by decide +kernel
theorem d_L_forget_0 : decode c_L_forget 0 = .ok (.aload_n 0, 1) := by decide +kernel
theorem d_L_forget_1 : decode c_L_forget 1 = .ok (.getfield 16, 3) := by decide +kernel
theorem d_L_forget_4 : decode c_L_forget 4 = .ok (.lconst 0, 1) := by decide +kernel
theorem d_L_forget_5 : decode c_L_forget 5 = .ok (.invokestatic 59, 3) := by decide +kernel
theorem d_L_forget_8 : decode c_L_forget 8 = .ok (.aload_n 0, 1) := by decide +kernel
theorem d_L_forget_9 : decode c_L_forget 9 = .ok (.getfield 20, 3) := by decide +kernel
theorem d_L_forget_12 : decode c_L_forget 12 = .ok (.lconst 0, 1) := by decide +kernel
theorem d_L_forget_13 : decode c_L_forget 13 = .ok (.invokestatic 59, 3) := by decide +kernel
theorem d_L_forget_16 : decode c_L_forget 16 = .ok (.iconst 0, 1) := by decide +kernel
theorem d_L_forget_17 : decode c_L_forget 17 = .ok (.istore_n 1, 1) := by decide +kernel
theorem d_L_forget_18 : decode c_L_forget 18 = .ok (.iload_n 1, 1) := by decide +kernel
theorem d_L_forget_19 : decode c_L_forget 19 = .ok (.bipush 20, 2) := by decide +kernel
theorem d_L_forget_21 : decode c_L_forget 21 = .ok (.if_icmp .ge 26, 3) := by decide +kernel
theorem d_L_forget_24 : decode c_L_forget 24 = .ok (.aload_n 0, 1) := by decide +kernel
theorem d_L_forget_25 : decode c_L_forget 25 = .ok (.getfield 11, 3) := by decide +kernel
theorem d_L_forget_28 : decode c_L_forget 28 = .ok (.iload_n 1, 1) := by decide +kernel
theorem d_L_forget_29 : decode c_L_forget 29 = .ok (.aaload, 1) := by decide +kernel
theorem d_L_forget_30 : decode c_L_forget 30 = .ok (.lconst 0, 1) := by decide +kernel
theorem d_L_forget_31 : decode c_L_forget 31 = .ok (.invokestatic 59, 3) := by decide +kernel
theorem d_L_forget_34 : decode c_L_forget 34 = .ok (.aload_n 0, 1) := by decide +kernel
theorem d_L_forget_35 : decode c_L_forget 35 = .ok (.getfield 23, 3) := by decide +kernel
theorem d_L_forget_38 : decode c_L_forget 38 = .ok (.iload_n 1, 1) := by decide +kernel
theorem d_L_forget_39 : decode c_L_forget 39 = .ok (.iconst 0, 1) := by decide +kernel
theorem d_L_forget_40 : decode c_L_forget 40 = .ok (.bastore, 1) := by decide +kernel
theorem d_L_forget_41 : decode c_L_forget 41 = .ok (.iinc 1 1, 3) := by decide +kernel
theorem d_L_forget_44 : decode c_L_forget 44 = .ok (.goto (-26), 3) := by decide +kernel
theorem d_L_forget_47 : decode c_L_forget 47 = .ok (.return_, 1) := by decide +kernel
theorem d_L_earliestUnsettled_0 : decode c_L_earliestUnsettled 0 = .ok (.iconst (-1), 1) := by decide +kernel
theorem d_L_earliestUnsettled_1 : decode c_L_earliestUnsettled 1 = .ok (.istore_n 1, 1) := by decide +kernel
theorem d_L_earliestUnsettled_2 : decode c_L_earliestUnsettled 2 = .ok (.iconst 0, 1) := by decide +kernel
theorem d_L_earliestUnsettled_3 : decode c_L_earliestUnsettled 3 = .ok (.istore_n 2, 1) := by decide +kernel
theorem d_L_earliestUnsettled_4 : decode c_L_earliestUnsettled 4 = .ok (.iload_n 2, 1) := by decide +kernel
theorem d_L_earliestUnsettled_5 : decode c_L_earliestUnsettled 5 = .ok (.aload_n 0, 1) := by decide +kernel
theorem d_L_earliestUnsettled_6 : decode c_L_earliestUnsettled 6 = .ok (.getfield 30, 3) := by decide +kernel
theorem d_L_earliestUnsettled_9 : decode c_L_earliestUnsettled 9 = .ok (.getfield 45, 3) := by decide +kernel
theorem d_L_earliestUnsettled_12 : decode c_L_earliestUnsettled 12 = .ok (.if_icmp .ge 57, 3) := by decide +kernel
theorem d_L_earliestUnsettled_15 : decode c_L_earliestUnsettled 15 = .ok (.aload_n 0, 1) := by decide +kernel
theorem d_L_earliestUnsettled_16 : decode c_L_earliestUnsettled 16 = .ok (.getfield 30, 3) := by decide +kernel
theorem d_L_earliestUnsettled_19 : decode c_L_earliestUnsettled 19 = .ok (.iload_n 2, 1) := by decide +kernel
theorem d_L_earliestUnsettled_20 : decode c_L_earliestUnsettled 20 = .ok (.invokevirtual 65, 3) := by decide +kernel
theorem d_L_earliestUnsettled_23 : decode c_L_earliestUnsettled 23 = .ok (.ifCond .eq 40, 3) := by decide +kernel
theorem d_L_earliestUnsettled_26 : decode c_L_earliestUnsettled 26 = .ok (.aload_n 0, 1) := by decide +kernel
theorem d_L_earliestUnsettled_27 : decode c_L_earliestUnsettled 27 = .ok (.getfield 23, 3) := by decide +kernel
theorem d_L_earliestUnsettled_30 : decode c_L_earliestUnsettled 30 = .ok (.iload_n 2, 1) := by decide +kernel
theorem d_L_earliestUnsettled_31 : decode c_L_earliestUnsettled 31 = .ok (.baload, 1) := by decide +kernel
theorem d_L_earliestUnsettled_32 : decode c_L_earliestUnsettled 32 = .ok (.ifCond .ne 31, 3) := by decide +kernel
theorem d_L_earliestUnsettled_35 : decode c_L_earliestUnsettled 35 = .ok (.iload_n 1, 1) := by decide +kernel
theorem d_L_earliestUnsettled_36 : decode c_L_earliestUnsettled 36 = .ok (.iconst (-1), 1) := by decide +kernel
theorem d_L_earliestUnsettled_37 : decode c_L_earliestUnsettled 37 = .ok (.if_icmp .eq 24, 3) := by decide +kernel
theorem d_L_earliestUnsettled_40 : decode c_L_earliestUnsettled 40 = .ok (.aload_n 0, 1) := by decide +kernel
theorem d_L_earliestUnsettled_41 : decode c_L_earliestUnsettled 41 = .ok (.getfield 30, 3) := by decide +kernel
theorem d_L_earliestUnsettled_44 : decode c_L_earliestUnsettled 44 = .ok (.getfield 69, 3) := by decide +kernel
theorem d_L_earliestUnsettled_47 : decode c_L_earliestUnsettled 47 = .ok (.iload_n 2, 1) := by decide +kernel
theorem d_L_earliestUnsettled_48 : decode c_L_earliestUnsettled 48 = .ok (.iaload, 1) := by decide +kernel
theorem d_L_earliestUnsettled_49 : decode c_L_earliestUnsettled 49 = .ok (.aload_n 0, 1) := by decide +kernel
theorem d_L_earliestUnsettled_50 : decode c_L_earliestUnsettled 50 = .ok (.getfield 30, 3) := by decide +kernel
theorem d_L_earliestUnsettled_53 : decode c_L_earliestUnsettled 53 = .ok (.getfield 69, 3) := by decide +kernel
theorem d_L_earliestUnsettled_56 : decode c_L_earliestUnsettled 56 = .ok (.iload_n 1, 1) := by decide +kernel
theorem d_L_earliestUnsettled_57 : decode c_L_earliestUnsettled 57 = .ok (.iaload, 1) := by decide +kernel
theorem d_L_earliestUnsettled_58 : decode c_L_earliestUnsettled 58 = .ok (.if_icmp .ge 5, 3) := by decide +kernel
theorem d_L_earliestUnsettled_61 : decode c_L_earliestUnsettled 61 = .ok (.iload_n 2, 1) := by decide +kernel
theorem d_L_earliestUnsettled_62 : decode c_L_earliestUnsettled 62 = .ok (.istore_n 1, 1) := by decide +kernel
theorem d_L_earliestUnsettled_63 : decode c_L_earliestUnsettled 63 = .ok (.iinc 2 1, 3) := by decide +kernel
theorem d_L_earliestUnsettled_66 : decode c_L_earliestUnsettled 66 = .ok (.goto (-62), 3) := by decide +kernel
theorem d_L_earliestUnsettled_69 : decode c_L_earliestUnsettled 69 = .ok (.iload_n 1, 1) := by decide +kernel
theorem d_L_earliestUnsettled_70 : decode c_L_earliestUnsettled 70 = .ok (.ireturn, 1) := by decide +kernel
theorem d_L_settleOne_0 : decode c_L_settleOne 0 = .ok (.aload_n 0, 1) := by decide +kernel
theorem d_L_settleOne_1 : decode c_L_settleOne 1 = .ok (.getfield 30, 3) := by decide +kernel
theorem d_L_settleOne_4 : decode c_L_settleOne 4 = .ok (.getfield 73, 3) := by decide +kernel
theorem d_L_settleOne_7 : decode c_L_settleOne 7 = .ok (.iload_n 1, 1) := by decide +kernel
theorem d_L_settleOne_8 : decode c_L_settleOne 8 = .ok (.iaload, 1) := by decide +kernel
theorem d_L_settleOne_9 : decode c_L_settleOne 9 = .ok (.i2l, 1) := by decide +kernel
theorem d_L_settleOne_10 : decode c_L_settleOne 10 = .ok (.aload_n 0, 1) := by decide +kernel
theorem d_L_settleOne_11 : decode c_L_settleOne 11 = .ok (.getfield 20, 3) := by decide +kernel
theorem d_L_settleOne_14 : decode c_L_settleOne 14 = .ok (.iload_n 1, 1) := by decide +kernel
theorem d_L_settleOne_15 : decode c_L_settleOne 15 = .ok (.laload, 1) := by decide +kernel
theorem d_L_settleOne_16 : decode c_L_settleOne 16 = .ok (.ladd, 1) := by decide +kernel
theorem d_L_settleOne_17 : decode c_L_settleOne 17 = .ok (.lstore_n 2, 1) := by decide +kernel
theorem d_L_settleOne_18 : decode c_L_settleOne 18 = .ok (.aload_n 0, 1) := by decide +kernel
theorem d_L_settleOne_19 : decode c_L_settleOne 19 = .ok (.getfield 16, 3) := by decide +kernel
theorem d_L_settleOne_22 : decode c_L_settleOne 22 = .ok (.iload_n 1, 1) := by decide +kernel
theorem d_L_settleOne_23 : decode c_L_settleOne 23 = .ok (.lload_n 2, 1) := by decide +kernel
theorem d_L_settleOne_24 : decode c_L_settleOne 24 = .ok (.lastore, 1) := by decide +kernel
theorem d_L_settleOne_25 : decode c_L_settleOne 25 = .ok (.aload_n 0, 1) := by decide +kernel
theorem d_L_settleOne_26 : decode c_L_settleOne 26 = .ok (.getfield 34, 3) := by decide +kernel
theorem d_L_settleOne_29 : decode c_L_settleOne 29 = .ok (.iload_n 1, 1) := by decide +kernel
theorem d_L_settleOne_30 : decode c_L_settleOne 30 = .ok (.invokevirtual 76, 3) := by decide +kernel
theorem d_L_settleOne_33 : decode c_L_settleOne 33 = .ok (.aload_n 0, 1) := by decide +kernel
theorem d_L_settleOne_34 : decode c_L_settleOne 34 = .ok (.getfield 34, 3) := by decide +kernel
theorem d_L_settleOne_37 : decode c_L_settleOne 37 = .ok (.getfield 81, 3) := by decide +kernel
theorem d_L_settleOne_40 : decode c_L_settleOne 40 = .ok (.iconst 5, 1) := by decide +kernel
theorem d_L_settleOne_41 : decode c_L_settleOne 41 = .ok (.if_icmp .ne 12, 3) := by decide +kernel
theorem d_L_settleOne_44 : decode c_L_settleOne 44 = .ok (.aload_n 0, 1) := by decide +kernel
theorem d_L_settleOne_45 : decode c_L_settleOne 45 = .ok (.iload_n 1, 1) := by decide +kernel
theorem d_L_settleOne_46 : decode c_L_settleOne 46 = .ok (.bipush 20, 2) := by decide +kernel
theorem d_L_settleOne_48 : decode c_L_settleOne 48 = .ok (.lload_n 2, 1) := by decide +kernel
theorem d_L_settleOne_49 : decode c_L_settleOne 49 = .ok (.invokevirtual 84, 3) := by decide +kernel
theorem d_L_settleOne_52 : decode c_L_settleOne 52 = .ok (.return_, 1) := by decide +kernel
theorem d_L_settleOne_53 : decode c_L_settleOne 53 = .ok (.aload_n 0, 1) := by decide +kernel
theorem d_L_settleOne_54 : decode c_L_settleOne 54 = .ok (.getfield 34, 3) := by decide +kernel
theorem d_L_settleOne_57 : decode c_L_settleOne 57 = .ok (.getfield 81, 3) := by decide +kernel
theorem d_L_settleOne_60 : decode c_L_settleOne 60 = .ok (.ifCond .ne 14, 3) := by decide +kernel
theorem d_L_settleOne_63 : decode c_L_settleOne 63 = .ok (.aload_n 0, 1) := by decide +kernel
theorem d_L_settleOne_64 : decode c_L_settleOne 64 = .ok (.getfield 38, 3) := by decide +kernel
theorem d_L_settleOne_67 : decode c_L_settleOne 67 = .ok (.lload_n 2, 1) := by decide +kernel
theorem d_L_settleOne_68 : decode c_L_settleOne 68 = .ok (.invokevirtual 88, 3) := by decide +kernel
theorem d_L_settleOne_71 : decode c_L_settleOne 71 = .ok (.goto 11, 3) := by decide +kernel
theorem d_L_settleOne_74 : decode c_L_settleOne 74 = .ok (.aload_n 0, 1) := by decide +kernel
theorem d_L_settleOne_75 : decode c_L_settleOne 75 = .ok (.getfield 38, 3) := by decide +kernel
theorem d_L_settleOne_78 : decode c_L_settleOne 78 = .ok (.lload_n 2, 1) := by decide +kernel
theorem d_L_settleOne_79 : decode c_L_settleOne 79 = .ok (.invokevirtual 94, 3) := by decide +kernel
theorem d_L_settleOne_82 : decode c_L_settleOne 82 = .ok (.aload_n 0, 1) := by decide +kernel
theorem d_L_settleOne_83 : decode c_L_settleOne 83 = .ok (.iload_n 1, 1) := by decide +kernel
theorem d_L_settleOne_84 : decode c_L_settleOne 84 = .ok (.invokevirtual 97, 3) := by decide +kernel
theorem d_L_settleOne_87 : decode c_L_settleOne 87 = .ok (.return_, 1) := by decide +kernel
theorem d_L_payDues_0 : decode c_L_payDues 0 = .ok (.aload_n 0, 1) := by decide +kernel
theorem d_L_payDues_1 : decode c_L_payDues 1 = .ok (.getfield 38, 3) := by decide +kernel
theorem d_L_payDues_4 : decode c_L_payDues 4 = .ok (.getfield 100, 3) := by decide +kernel
theorem d_L_payDues_7 : decode c_L_payDues 7 = .ok (.lstore_n 2, 1) := by decide +kernel
theorem d_L_payDues_8 : decode c_L_payDues 8 = .ok (.lload_n 2, 1) := by decide +kernel
theorem d_L_payDues_9 : decode c_L_payDues 9 = .ok (.lconst 0, 1) := by decide +kernel
theorem d_L_payDues_10 : decode c_L_payDues 10 = .ok (.lcmp, 1) := by decide +kernel
theorem d_L_payDues_11 : decode c_L_payDues 11 = .ok (.ifCond .gt 4, 3) := by decide +kernel
theorem d_L_payDues_14 : decode c_L_payDues 14 = .ok (.return_, 1) := by decide +kernel
theorem d_L_payDues_15 : decode c_L_payDues 15 = .ok (.aload_n 0, 1) := by decide +kernel
theorem d_L_payDues_16 : decode c_L_payDues 16 = .ok (.getfield 16, 3) := by decide +kernel
theorem d_L_payDues_19 : decode c_L_payDues 19 = .ok (.iload_n 1, 1) := by decide +kernel
theorem d_L_payDues_20 : decode c_L_payDues 20 = .ok (.laload, 1) := by decide +kernel
theorem d_L_payDues_21 : decode c_L_payDues 21 = .ok (.lstore 4, 2) := by decide +kernel
theorem d_L_payDues_23 : decode c_L_payDues 23 = .ok (.iconst 0, 1) := by decide +kernel
theorem d_L_payDues_24 : decode c_L_payDues 24 = .ok (.istore 6, 2) := by decide +kernel
theorem d_L_payDues_26 : decode c_L_payDues 26 = .ok (.iload 6, 2) := by decide +kernel
theorem d_L_payDues_28 : decode c_L_payDues 28 = .ok (.aload_n 0, 1) := by decide +kernel
theorem d_L_payDues_29 : decode c_L_payDues 29 = .ok (.getfield 30, 3) := by decide +kernel
theorem d_L_payDues_32 : decode c_L_payDues 32 = .ok (.getfield 45, 3) := by decide +kernel
theorem d_L_payDues_35 : decode c_L_payDues 35 = .ok (.if_icmp .ge 58, 3) := by decide +kernel
theorem d_L_payDues_38 : decode c_L_payDues 38 = .ok (.aload_n 0, 1) := by decide +kernel
theorem d_L_payDues_39 : decode c_L_payDues 39 = .ok (.getfield 38, 3) := by decide +kernel
theorem d_L_payDues_42 : decode c_L_payDues 42 = .ok (.getfield 104, 3) := by decide +kernel
theorem d_L_payDues_45 : decode c_L_payDues 45 = .ok (.iload 6, 2) := by decide +kernel
theorem d_L_payDues_47 : decode c_L_payDues 47 = .ok (.laload, 1) := by decide +kernel
theorem d_L_payDues_48 : decode c_L_payDues 48 = .ok (.lload_n 2, 1) := by decide +kernel
theorem d_L_payDues_49 : decode c_L_payDues 49 = .ok (.ldiv, 1) := by decide +kernel
theorem d_L_payDues_50 : decode c_L_payDues 50 = .ok (.lstore 7, 2) := by decide +kernel
theorem d_L_payDues_52 : decode c_L_payDues 52 = .ok (.aload_n 0, 1) := by decide +kernel
theorem d_L_payDues_53 : decode c_L_payDues 53 = .ok (.getfield 27, 3) := by decide +kernel
theorem d_L_payDues_56 : decode c_L_payDues 56 = .ok (.iload 6, 2) := by decide +kernel
theorem d_L_payDues_58 : decode c_L_payDues 58 = .ok (.aload_n 0, 1) := by decide +kernel
theorem d_L_payDues_59 : decode c_L_payDues 59 = .ok (.getfield 38, 3) := by decide +kernel
theorem d_L_payDues_62 : decode c_L_payDues 62 = .ok (.getfield 104, 3) := by decide +kernel
theorem d_L_payDues_65 : decode c_L_payDues 65 = .ok (.iload 6, 2) := by decide +kernel
theorem d_L_payDues_67 : decode c_L_payDues 67 = .ok (.laload, 1) := by decide +kernel
theorem d_L_payDues_68 : decode c_L_payDues 68 = .ok (.lload_n 2, 1) := by decide +kernel
theorem d_L_payDues_69 : decode c_L_payDues 69 = .ok (.lrem, 1) := by decide +kernel
theorem d_L_payDues_70 : decode c_L_payDues 70 = .ok (.lastore, 1) := by decide +kernel
theorem d_L_payDues_71 : decode c_L_payDues 71 = .ok (.aload_n 0, 1) := by decide +kernel
theorem d_L_payDues_72 : decode c_L_payDues 72 = .ok (.iload_n 1, 1) := by decide +kernel
theorem d_L_payDues_73 : decode c_L_payDues 73 = .ok (.iload 6, 2) := by decide +kernel
theorem d_L_payDues_75 : decode c_L_payDues 75 = .ok (.lload 7, 2) := by decide +kernel
theorem d_L_payDues_77 : decode c_L_payDues 77 = .ok (.invokevirtual 84, 3) := by decide +kernel
theorem d_L_payDues_80 : decode c_L_payDues 80 = .ok (.lload 4, 2) := by decide +kernel
theorem d_L_payDues_82 : decode c_L_payDues 82 = .ok (.lload 7, 2) := by decide +kernel
theorem d_L_payDues_84 : decode c_L_payDues 84 = .ok (.lsub, 1) := by decide +kernel
theorem d_L_payDues_85 : decode c_L_payDues 85 = .ok (.lstore 4, 2) := by decide +kernel
theorem d_L_payDues_87 : decode c_L_payDues 87 = .ok (.iinc 6 1, 3) := by decide +kernel
theorem d_L_payDues_90 : decode c_L_payDues 90 = .ok (.goto (-64), 3) := by decide +kernel
theorem d_L_payDues_93 : decode c_L_payDues 93 = .ok (.iconst 0, 1) := by decide +kernel
theorem d_L_payDues_94 : decode c_L_payDues 94 = .ok (.istore 6, 2) := by decide +kernel
theorem d_L_payDues_96 : decode c_L_payDues 96 = .ok (.iload 6, 2) := by decide +kernel
theorem d_L_payDues_98 : decode c_L_payDues 98 = .ok (.bipush 20, 2) := by decide +kernel
theorem d_L_payDues_100 : decode c_L_payDues 100 = .ok (.if_icmp .ge 44, 3) := by decide +kernel
theorem d_L_payDues_103 : decode c_L_payDues 103 = .ok (.lload 4, 2) := by decide +kernel
theorem d_L_payDues_105 : decode c_L_payDues 105 = .ok (.lconst 0, 1) := by decide +kernel
theorem d_L_payDues_106 : decode c_L_payDues 106 = .ok (.lcmp, 1) := by decide +kernel
theorem d_L_payDues_107 : decode c_L_payDues 107 = .ok (.ifCond .le 37, 3) := by decide +kernel
theorem d_L_payDues_110 : decode c_L_payDues 110 = .ok (.aload_n 0, 1) := by decide +kernel
theorem d_L_payDues_111 : decode c_L_payDues 111 = .ok (.invokevirtual 107, 3) := by decide +kernel
theorem d_L_payDues_114 : decode c_L_payDues 114 = .ok (.istore 7, 2) := by decide +kernel
theorem d_L_payDues_116 : decode c_L_payDues 116 = .ok (.aload_n 0, 1) := by decide +kernel
theorem d_L_payDues_117 : decode c_L_payDues 117 = .ok (.iload_n 1, 1) := by decide +kernel
theorem d_L_payDues_118 : decode c_L_payDues 118 = .ok (.iload 7, 2) := by decide +kernel
theorem d_L_payDues_120 : decode c_L_payDues 120 = .ok (.lconst 1, 1) := by decide +kernel
theorem d_L_payDues_121 : decode c_L_payDues 121 = .ok (.invokevirtual 84, 3) := by decide +kernel
theorem d_L_payDues_124 : decode c_L_payDues 124 = .ok (.aload_n 0, 1) := by decide +kernel
theorem d_L_payDues_125 : decode c_L_payDues 125 = .ok (.getfield 27, 3) := by decide +kernel
theorem d_L_payDues_128 : decode c_L_payDues 128 = .ok (.iload 7, 2) := by decide +kernel
theorem d_L_payDues_130 : decode c_L_payDues 130 = .ok (.lconst 0, 1) := by decide +kernel
theorem d_L_payDues_131 : decode c_L_payDues 131 = .ok (.lastore, 1) := by decide +kernel
theorem d_L_payDues_132 : decode c_L_payDues 132 = .ok (.lload 4, 2) := by decide +kernel
theorem d_L_payDues_134 : decode c_L_payDues 134 = .ok (.lconst 1, 1) := by decide +kernel
theorem d_L_payDues_135 : decode c_L_payDues 135 = .ok (.lsub, 1) := by decide +kernel
theorem d_L_payDues_136 : decode c_L_payDues 136 = .ok (.lstore 4, 2) := by decide +kernel
theorem d_L_payDues_138 : decode c_L_payDues 138 = .ok (.iinc 6 1, 3) := by decide +kernel
theorem d_L_payDues_141 : decode c_L_payDues 141 = .ok (.goto (-45), 3) := by decide +kernel
theorem d_L_payDues_144 : decode c_L_payDues 144 = .ok (.return_, 1) := by decide +kernel
theorem d_L_greatestRest_0 : decode c_L_greatestRest 0 = .ok (.iconst 0, 1) := by decide +kernel
theorem d_L_greatestRest_1 : decode c_L_greatestRest 1 = .ok (.istore_n 1, 1) := by decide +kernel
theorem d_L_greatestRest_2 : decode c_L_greatestRest 2 = .ok (.iconst 1, 1) := by decide +kernel
theorem d_L_greatestRest_3 : decode c_L_greatestRest 3 = .ok (.istore_n 2, 1) := by decide +kernel
theorem d_L_greatestRest_4 : decode c_L_greatestRest 4 = .ok (.iload_n 2, 1) := by decide +kernel
theorem d_L_greatestRest_5 : decode c_L_greatestRest 5 = .ok (.aload_n 0, 1) := by decide +kernel
theorem d_L_greatestRest_6 : decode c_L_greatestRest 6 = .ok (.getfield 30, 3) := by decide +kernel
theorem d_L_greatestRest_9 : decode c_L_greatestRest 9 = .ok (.getfield 45, 3) := by decide +kernel
theorem d_L_greatestRest_12 : decode c_L_greatestRest 12 = .ok (.if_icmp .ge 27, 3) := by decide +kernel
theorem d_L_greatestRest_15 : decode c_L_greatestRest 15 = .ok (.aload_n 0, 1) := by decide +kernel
theorem d_L_greatestRest_16 : decode c_L_greatestRest 16 = .ok (.getfield 27, 3) := by decide +kernel
theorem d_L_greatestRest_19 : decode c_L_greatestRest 19 = .ok (.iload_n 2, 1) := by decide +kernel
theorem d_L_greatestRest_20 : decode c_L_greatestRest 20 = .ok (.laload, 1) := by decide +kernel
theorem d_L_greatestRest_21 : decode c_L_greatestRest 21 = .ok (.aload_n 0, 1) := by decide +kernel
theorem d_L_greatestRest_22 : decode c_L_greatestRest 22 = .ok (.getfield 27, 3) := by decide +kernel
theorem d_L_greatestRest_25 : decode c_L_greatestRest 25 = .ok (.iload_n 1, 1) := by decide +kernel
theorem d_L_greatestRest_26 : decode c_L_greatestRest 26 = .ok (.laload, 1) := by decide +kernel
theorem d_L_greatestRest_27 : decode c_L_greatestRest 27 = .ok (.lcmp, 1) := by decide +kernel
theorem d_L_greatestRest_28 : decode c_L_greatestRest 28 = .ok (.ifCond .le 5, 3) := by decide +kernel
theorem d_L_greatestRest_31 : decode c_L_greatestRest 31 = .ok (.iload_n 2, 1) := by decide +kernel
theorem d_L_greatestRest_32 : decode c_L_greatestRest 32 = .ok (.istore_n 1, 1) := by decide +kernel
theorem d_L_greatestRest_33 : decode c_L_greatestRest 33 = .ok (.iinc 2 1, 3) := by decide +kernel
theorem d_L_greatestRest_36 : decode c_L_greatestRest 36 = .ok (.goto (-32), 3) := by decide +kernel
theorem d_L_greatestRest_39 : decode c_L_greatestRest 39 = .ok (.iload_n 1, 1) := by decide +kernel
theorem d_L_greatestRest_40 : decode c_L_greatestRest 40 = .ok (.ireturn, 1) := by decide +kernel
theorem d_L_pay_0 : decode c_L_pay 0 = .ok (.aload_n 0, 1) := by decide +kernel
theorem d_L_pay_1 : decode c_L_pay 1 = .ok (.getfield 11, 3) := by decide +kernel
theorem d_L_pay_4 : decode c_L_pay 4 = .ok (.iload_n 1, 1) := by decide +kernel
theorem d_L_pay_5 : decode c_L_pay 5 = .ok (.aaload, 1) := by decide +kernel
theorem d_L_pay_6 : decode c_L_pay 6 = .ok (.iload_n 2, 1) := by decide +kernel
theorem d_L_pay_7 : decode c_L_pay 7 = .ok (.dup2, 1) := by decide +kernel
theorem d_L_pay_8 : decode c_L_pay 8 = .ok (.laload, 1) := by decide +kernel
theorem d_L_pay_9 : decode c_L_pay 9 = .ok (.lload_n 3, 1) := by decide +kernel
theorem d_L_pay_10 : decode c_L_pay 10 = .ok (.ladd, 1) := by decide +kernel
theorem d_L_pay_11 : decode c_L_pay 11 = .ok (.lastore, 1) := by decide +kernel
theorem d_L_pay_12 : decode c_L_pay 12 = .ok (.aload_n 0, 1) := by decide +kernel
theorem d_L_pay_13 : decode c_L_pay 13 = .ok (.getfield 20, 3) := by decide +kernel
theorem d_L_pay_16 : decode c_L_pay 16 = .ok (.iload_n 2, 1) := by decide +kernel
theorem d_L_pay_17 : decode c_L_pay 17 = .ok (.dup2, 1) := by decide +kernel
theorem d_L_pay_18 : decode c_L_pay 18 = .ok (.laload, 1) := by decide +kernel
theorem d_L_pay_19 : decode c_L_pay 19 = .ok (.lload_n 3, 1) := by decide +kernel
theorem d_L_pay_20 : decode c_L_pay 20 = .ok (.ladd, 1) := by decide +kernel
theorem d_L_pay_21 : decode c_L_pay 21 = .ok (.lastore, 1) := by decide +kernel
theorem d_L_pay_22 : decode c_L_pay 22 = .ok (.return_, 1) := by decide +kernel
