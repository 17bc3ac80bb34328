theorem d_M_init_0 : decode c_M_init 0 = .ok (.aload_n 0, 1) := by decide +kernel
theorem d_M_init_1 : decode c_M_init 1 = .ok (.invokespecial 1, 3) := by decide +kernel
theorem d_M_init_4 : decode c_M_init 4 = .ok (.aload_n 0, 1) := by decide +kernel
theorem d_M_init_5 : decode c_M_init 5 = .ok (.bipush 20, 2) := by decide +kernel
theorem d_M_init_7 : decode c_M_init 7 = .ok (.newarray .int, 2) := by decide +kernel
theorem d_M_init_9 : decode c_M_init 9 = .ok (.putfield 7, 3) := by decide +kernel
theorem d_M_init_12 : decode c_M_init 12 = .ok (.aload_n 0, 1) := by decide +kernel
theorem d_M_init_13 : decode c_M_init 13 = .ok (.bipush 20, 2) := by decide +kernel
theorem d_M_init_15 : decode c_M_init 15 = .ok (.newarray .int, 2) := by decide +kernel
theorem d_M_init_17 : decode c_M_init 17 = .ok (.putfield 13, 3) := by decide +kernel
theorem d_M_init_20 : decode c_M_init 20 = .ok (.aload_n 0, 1) := by decide +kernel
theorem d_M_init_21 : decode c_M_init 21 = .ok (.bipush 20, 2) := by decide +kernel
theorem d_M_init_23 : decode c_M_init 23 = .ok (.newarray .int, 2) := by decide +kernel
theorem d_M_init_25 : decode c_M_init 25 = .ok (.putfield 16, 3) := by decide +kernel
theorem d_M_init_28 : decode c_M_init 28 = .ok (.aload_n 0, 1) := by decide +kernel
theorem d_M_init_29 : decode c_M_init 29 = .ok (.bipush 20, 2) := by decide +kernel
theorem d_M_init_31 : decode c_M_init 31 = .ok (.newarray .int, 2) := by decide +kernel
theorem d_M_init_33 : decode c_M_init 33 = .ok (.putfield 19, 3) := by decide +kernel
theorem d_M_init_36 : decode c_M_init 36 = .ok (.aload_n 0, 1) := by decide +kernel
theorem d_M_init_37 : decode c_M_init 37 = .ok (.bipush 20, 2) := by decide +kernel
theorem d_M_init_39 : decode c_M_init 39 = .ok (.newarray .int, 2) := by decide +kernel
theorem d_M_init_41 : decode c_M_init 41 = .ok (.putfield 22, 3) := by decide +kernel
theorem d_M_init_44 : decode c_M_init 44 = .ok (.aload_n 0, 1) := by decide +kernel
theorem d_M_init_45 : decode c_M_init 45 = .ok (.sipush 400, 3) := by decide +kernel
theorem d_M_init_48 : decode c_M_init 48 = .ok (.newarray .int, 2) := by decide +kernel
theorem d_M_init_50 : decode c_M_init 50 = .ok (.putfield 25, 3) := by decide +kernel
theorem d_M_init_53 : decode c_M_init 53 = .ok (.aload_n 0, 1) := by decide +kernel
theorem d_M_init_54 : decode c_M_init 54 = .ok (.sipush 400, 3) := by decide +kernel
theorem d_M_init_57 : decode c_M_init 57 = .ok (.newarray .boolean, 2) := by decide +kernel
theorem d_M_init_59 : decode c_M_init 59 = .ok (.putfield 28, 3) := by decide +kernel
theorem d_M_init_62 : decode c_M_init 62 = .ok (.aload_n 0, 1) := by decide +kernel
theorem d_M_init_63 : decode c_M_init 63 = .ok (.bipush 20, 2) := by decide +kernel
theorem d_M_init_65 : decode c_M_init 65 = .ok (.newarray .boolean, 2) := by decide +kernel
theorem d_M_init_67 : decode c_M_init 67 = .ok (.putfield 32, 3) := by decide +kernel
theorem d_M_init_70 : decode c_M_init 70 = .ok (.aload_n 0, 1) := by decide +kernel
theorem d_M_init_71 : decode c_M_init 71 = .ok (.bipush 20, 2) := by decide +kernel
theorem d_M_init_73 : decode c_M_init 73 = .ok (.newarray .int, 2) := by decide +kernel
theorem d_M_init_75 : decode c_M_init 75 = .ok (.putfield 35, 3) := by decide +kernel
theorem d_M_init_78 : decode c_M_init 78 = .ok (.aload_n 0, 1) := by decide +kernel
theorem d_M_init_79 : decode c_M_init 79 = .ok (.bipush 80, 2) := by decide +kernel
theorem d_M_init_81 : decode c_M_init 81 = .ok (.newarray .boolean, 2) := by decide +kernel
theorem d_M_init_83 : decode c_M_init 83 = .ok (.putfield 38, 3) := by decide +kernel
theorem d_M_init_86 : decode c_M_init 86 = .ok (.aload_n 0, 1) := by decide +kernel
theorem d_M_init_87 : decode c_M_init 87 = .ok (.bipush 80, 2) := by decide +kernel
theorem d_M_init_89 : decode c_M_init 89 = .ok (.newarray .long, 2) := by decide +kernel
theorem d_M_init_91 : decode c_M_init 91 = .ok (.putfield 41, 3) := by decide +kernel
theorem d_M_init_94 : decode c_M_init 94 = .ok (.aload_n 0, 1) := by decide +kernel
theorem d_M_init_95 : decode c_M_init 95 = .ok (.bipush 20, 2) := by decide +kernel
theorem d_M_init_97 : decode c_M_init 97 = .ok (.newarray .long, 2) := by decide +kernel
theorem d_M_init_99 : decode c_M_init 99 = .ok (.putfield 45, 3) := by decide +kernel
theorem d_M_init_102 : decode c_M_init 102 = .ok (.aload_n 0, 1) := by decide +kernel
theorem d_M_init_103 : decode c_M_init 103 = .ok (.bipush 20, 2) := by decide +kernel
theorem d_M_init_105 : decode c_M_init 105 = .ok (.newarray .boolean, 2) := by decide +kernel
theorem d_M_init_107 : decode c_M_init 107 = .ok (.putfield 48, 3) := by decide +kernel
theorem d_M_init_110 : decode c_M_init 110 = .ok (.aload_n 0, 1) := by decide +kernel
theorem d_M_init_111 : decode c_M_init 111 = .ok (.sipush 420, 3) := by decide +kernel
theorem d_M_init_114 : decode c_M_init 114 = .ok (.newarray .long, 2) := by decide +kernel
theorem d_M_init_116 : decode c_M_init 116 = .ok (.putfield 51, 3) := by decide +kernel
theorem d_M_init_119 : decode c_M_init 119 = .ok (.aload_n 0, 1) := by decide +kernel
theorem d_M_init_120 : decode c_M_init 120 = .ok (.bipush 20, 2) := by decide +kernel
theorem d_M_init_122 : decode c_M_init 122 = .ok (.newarray .long, 2) := by decide +kernel
theorem d_M_init_124 : decode c_M_init 124 = .ok (.putfield 54, 3) := by decide +kernel
theorem d_M_init_127 : decode c_M_init 127 = .ok (.aload_n 0, 1) := by decide +kernel
theorem d_M_init_128 : decode c_M_init 128 = .ok (.bipush 21, 2) := by decide +kernel
theorem d_M_init_130 : decode c_M_init 130 = .ok (.newarray .long, 2) := by decide +kernel
theorem d_M_init_132 : decode c_M_init 132 = .ok (.putfield 57, 3) := by decide +kernel
theorem d_M_init_135 : decode c_M_init 135 = .ok (.return_, 1) := by decide +kernel
theorem d_M_thrown_0 : decode c_M_thrown 0 = .ok (.aload_n 0, 1) := by decide +kernel
theorem d_M_thrown_1 : decode c_M_thrown 1 = .ok (.getfield 60, 3) := by decide +kernel
theorem d_M_thrown_4 : decode c_M_thrown 4 = .ok (.ireturn, 1) := by decide +kernel
theorem d_M_no_0 : decode c_M_no 0 = .ok (.iload_n 1, 1) := by decide +kernel
theorem d_M_no_1 : decode c_M_no 1 = .ok (.ifCond .lt 11, 3) := by decide +kernel
theorem d_M_no_4 : decode c_M_no 4 = .ok (.iload_n 1, 1) := by decide +kernel
theorem d_M_no_5 : decode c_M_no 5 = .ok (.aload_n 0, 1) := by decide +kernel
theorem d_M_no_6 : decode c_M_no 6 = .ok (.getfield 64, 3) := by decide +kernel
theorem d_M_no_9 : decode c_M_no 9 = .ok (.if_icmp .lt 7, 3) := by decide +kernel
theorem d_M_no_12 : decode c_M_no 12 = .ok (.iconst 1, 1) := by decide +kernel
theorem d_M_no_13 : decode c_M_no 13 = .ok (.goto 4, 3) := by decide +kernel
theorem d_M_no_16 : decode c_M_no 16 = .ok (.iconst 0, 1) := by decide +kernel
theorem d_M_no_17 : decode c_M_no 17 = .ok (.ireturn, 1) := by decide +kernel
theorem d_M_person_0 : decode c_M_person 0 = .ok (.iload_n 1, 1) := by decide +kernel
theorem d_M_person_1 : decode c_M_person 1 = .ok (.iconst (-1), 1) := by decide +kernel
theorem d_M_person_2 : decode c_M_person 2 = .ok (.if_icmp .eq 11, 3) := by decide +kernel
theorem d_M_person_5 : decode c_M_person 5 = .ok (.aload_n 0, 1) := by decide +kernel
theorem d_M_person_6 : decode c_M_person 6 = .ok (.iload_n 1, 1) := by decide +kernel
theorem d_M_person_7 : decode c_M_person 7 = .ok (.invokevirtual 67, 3) := by decide +kernel
theorem d_M_person_10 : decode c_M_person 10 = .ok (.ifCond .ne 26, 3) := by decide +kernel
theorem d_M_person_13 : decode c_M_person 13 = .ok (.iload_n 2, 1) := by decide +kernel
theorem d_M_person_14 : decode c_M_person 14 = .ok (.iconst (-1), 1) := by decide +kernel
theorem d_M_person_15 : decode c_M_person 15 = .ok (.if_icmp .eq 11, 3) := by decide +kernel
theorem d_M_person_18 : decode c_M_person 18 = .ok (.aload_n 0, 1) := by decide +kernel
theorem d_M_person_19 : decode c_M_person 19 = .ok (.iload_n 2, 1) := by decide +kernel
theorem d_M_person_20 : decode c_M_person 20 = .ok (.invokevirtual 67, 3) := by decide +kernel
theorem d_M_person_23 : decode c_M_person 23 = .ok (.ifCond .ne 13, 3) := by decide +kernel
theorem d_M_person_26 : decode c_M_person 26 = .ok (.iload_n 1, 1) := by decide +kernel
theorem d_M_person_27 : decode c_M_person 27 = .ok (.iload_n 2, 1) := by decide +kernel
theorem d_M_person_28 : decode c_M_person 28 = .ok (.if_icmp .ne 12, 3) := by decide +kernel
theorem d_M_person_31 : decode c_M_person 31 = .ok (.iload_n 1, 1) := by decide +kernel
theorem d_M_person_32 : decode c_M_person 32 = .ok (.iconst (-1), 1) := by decide +kernel
theorem d_M_person_33 : decode c_M_person 33 = .ok (.if_icmp .eq 7, 3) := by decide +kernel
theorem d_M_person_36 : decode c_M_person 36 = .ok (.iconst 1, 1) := by decide +kernel
theorem d_M_person_37 : decode c_M_person 37 = .ok (.goto 4, 3) := by decide +kernel
theorem d_M_person_40 : decode c_M_person 40 = .ok (.iconst 0, 1) := by decide +kernel
theorem d_M_person_41 : decode c_M_person 41 = .ok (.istore_n 3, 1) := by decide +kernel
theorem d_M_person_42 : decode c_M_person 42 = .ok (.aload_n 0, 1) := by decide +kernel
theorem d_M_person_43 : decode c_M_person 43 = .ok (.iload_n 3, 1) := by decide +kernel
theorem d_M_person_44 : decode c_M_person 44 = .ok (.ifCond .eq 7, 3) := by decide +kernel
theorem d_M_person_47 : decode c_M_person 47 = .ok (.iconst 1, 1) := by decide +kernel
theorem d_M_person_48 : decode c_M_person 48 = .ok (.goto 17, 3) := by decide +kernel
theorem d_M_person_51 : decode c_M_person 51 = .ok (.aload_n 0, 1) := by decide +kernel
theorem d_M_person_52 : decode c_M_person 52 = .ok (.getfield 64, 3) := by decide +kernel
theorem d_M_person_55 : decode c_M_person 55 = .ok (.bipush 20, 2) := by decide +kernel
theorem d_M_person_57 : decode c_M_person 57 = .ok (.if_icmp .ne 7, 3) := by decide +kernel
theorem d_M_person_60 : decode c_M_person 60 = .ok (.iconst 2, 1) := by decide +kernel
theorem d_M_person_61 : decode c_M_person 61 = .ok (.goto 4, 3) := by decide +kernel
theorem d_M_person_64 : decode c_M_person 64 = .ok (.iconst 0, 1) := by decide +kernel
theorem d_M_person_65 : decode c_M_person 65 = .ok (.putfield 60, 3) := by decide +kernel
theorem d_M_person_68 : decode c_M_person 68 = .ok (.aload_n 0, 1) := by decide +kernel
theorem d_M_person_69 : decode c_M_person 69 = .ok (.getfield 60, 3) := by decide +kernel
theorem d_M_person_72 : decode c_M_person 72 = .ok (.ifCond .le 5, 3) := by decide +kernel
theorem d_M_person_75 : decode c_M_person 75 = .ok (.iconst 0, 1) := by decide +kernel
theorem d_M_person_76 : decode c_M_person 76 = .ok (.ireturn, 1) := by decide +kernel
theorem d_M_person_77 : decode c_M_person 77 = .ok (.aload_n 0, 1) := by decide +kernel
theorem d_M_person_78 : decode c_M_person 78 = .ok (.getfield 7, 3) := by decide +kernel
theorem d_M_person_81 : decode c_M_person 81 = .ok (.aload_n 0, 1) := by decide +kernel
theorem d_M_person_82 : decode c_M_person 82 = .ok (.getfield 64, 3) := by decide +kernel
theorem d_M_person_85 : decode c_M_person 85 = .ok (.iload_n 1, 1) := by decide +kernel
theorem d_M_person_86 : decode c_M_person 86 = .ok (.iastore, 1) := by decide +kernel
theorem d_M_person_87 : decode c_M_person 87 = .ok (.aload_n 0, 1) := by decide +kernel
theorem d_M_person_88 : decode c_M_person 88 = .ok (.getfield 13, 3) := by decide +kernel
theorem d_M_person_91 : decode c_M_person 91 = .ok (.aload_n 0, 1) := by decide +kernel
theorem d_M_person_92 : decode c_M_person 92 = .ok (.getfield 64, 3) := by decide +kernel
theorem d_M_person_95 : decode c_M_person 95 = .ok (.iload_n 2, 1) := by decide +kernel
theorem d_M_person_96 : decode c_M_person 96 = .ok (.iastore, 1) := by decide +kernel
theorem d_M_person_97 : decode c_M_person 97 = .ok (.aload_n 0, 1) := by decide +kernel
theorem d_M_person_98 : decode c_M_person 98 = .ok (.getfield 16, 3) := by decide +kernel
theorem d_M_person_101 : decode c_M_person 101 = .ok (.aload_n 0, 1) := by decide +kernel
theorem d_M_person_102 : decode c_M_person 102 = .ok (.getfield 64, 3) := by decide +kernel
theorem d_M_person_105 : decode c_M_person 105 = .ok (.iconst (-1), 1) := by decide +kernel
theorem d_M_person_106 : decode c_M_person 106 = .ok (.iastore, 1) := by decide +kernel
theorem d_M_person_107 : decode c_M_person 107 = .ok (.aload_n 0, 1) := by decide +kernel
theorem d_M_person_108 : decode c_M_person 108 = .ok (.getfield 19, 3) := by decide +kernel
theorem d_M_person_111 : decode c_M_person 111 = .ok (.aload_n 0, 1) := by decide +kernel
theorem d_M_person_112 : decode c_M_person 112 = .ok (.getfield 64, 3) := by decide +kernel
theorem d_M_person_115 : decode c_M_person 115 = .ok (.iconst (-1), 1) := by decide +kernel
theorem d_M_person_116 : decode c_M_person 116 = .ok (.iastore, 1) := by decide +kernel
theorem d_M_person_117 : decode c_M_person 117 = .ok (.aload_n 0, 1) := by decide +kernel
theorem d_M_person_118 : decode c_M_person 118 = .ok (.getfield 22, 3) := by decide +kernel
theorem d_M_person_121 : decode c_M_person 121 = .ok (.aload_n 0, 1) := by decide +kernel
theorem d_M_person_122 : decode c_M_person 122 = .ok (.getfield 64, 3) := by decide +kernel
theorem d_M_person_125 : decode c_M_person 125 = .ok (.iconst 0, 1) := by decide +kernel
theorem d_M_person_126 : decode c_M_person 126 = .ok (.iastore, 1) := by decide +kernel
theorem d_M_person_127 : decode c_M_person 127 = .ok (.aload_n 0, 1) := by decide +kernel
theorem d_M_person_128 : decode c_M_person 128 = .ok (.dup, 1) := by decide +kernel
theorem d_M_person_129 : decode c_M_person 129 = .ok (.getfield 64, 3) := by decide +kernel
theorem d_M_person_132 : decode c_M_person 132 = .ok (.iconst 1, 1) := by decide +kernel
theorem d_M_person_133 : decode c_M_person 133 = .ok (.iadd, 1) := by decide +kernel
theorem d_M_person_134 : decode c_M_person 134 = .ok (.putfield 64, 3) := by decide +kernel
theorem d_M_person_137 : decode c_M_person 137 = .ok (.aload_n 0, 1) := by decide +kernel
theorem d_M_person_138 : decode c_M_person 138 = .ok (.getfield 64, 3) := by decide +kernel
theorem d_M_person_141 : decode c_M_person 141 = .ok (.iconst 1, 1) := by decide +kernel
theorem d_M_person_142 : decode c_M_person 142 = .ok (.isub, 1) := by decide +kernel
theorem d_M_person_143 : decode c_M_person 143 = .ok (.ireturn, 1) := by decide +kernel
theorem d_M_amend_0 : decode c_M_amend 0 = .ok (.aload_n 0, 1) := by decide +kernel
theorem d_M_amend_1 : decode c_M_amend 1 = .ok (.iload_n 1, 1) := by decide +kernel
theorem d_M_amend_2 : decode c_M_amend 2 = .ok (.invokevirtual 67, 3) := by decide +kernel
theorem d_M_amend_5 : decode c_M_amend 5 = .ok (.ifCond .ne 39, 3) := by decide +kernel
theorem d_M_amend_8 : decode c_M_amend 8 = .ok (.iload_n 2, 1) := by decide +kernel
theorem d_M_amend_9 : decode c_M_amend 9 = .ok (.iconst (-1), 1) := by decide +kernel
theorem d_M_amend_10 : decode c_M_amend 10 = .ok (.if_icmp .eq 16, 3) := by decide +kernel
theorem d_M_amend_13 : decode c_M_amend 13 = .ok (.aload_n 0, 1) := by decide +kernel
theorem d_M_amend_14 : decode c_M_amend 14 = .ok (.iload_n 2, 1) := by decide +kernel
theorem d_M_amend_15 : decode c_M_amend 15 = .ok (.invokevirtual 67, 3) := by decide +kernel
theorem d_M_amend_18 : decode c_M_amend 18 = .ok (.ifCond .ne 26, 3) := by decide +kernel
theorem d_M_amend_21 : decode c_M_amend 21 = .ok (.iload_n 2, 1) := by decide +kernel
theorem d_M_amend_22 : decode c_M_amend 22 = .ok (.iload_n 1, 1) := by decide +kernel
theorem d_M_amend_23 : decode c_M_amend 23 = .ok (.if_icmp .ge 21, 3) := by decide +kernel
theorem d_M_amend_26 : decode c_M_amend 26 = .ok (.iload_n 3, 1) := by decide +kernel
theorem d_M_amend_27 : decode c_M_amend 27 = .ok (.iconst (-1), 1) := by decide +kernel
theorem d_M_amend_28 : decode c_M_amend 28 = .ok (.if_icmp .eq 20, 3) := by decide +kernel
theorem d_M_amend_31 : decode c_M_amend 31 = .ok (.aload_n 0, 1) := by decide +kernel
theorem d_M_amend_32 : decode c_M_amend 32 = .ok (.iload_n 3, 1) := by decide +kernel
theorem d_M_amend_33 : decode c_M_amend 33 = .ok (.invokevirtual 67, 3) := by decide +kernel
theorem d_M_amend_36 : decode c_M_amend 36 = .ok (.ifCond .ne 8, 3) := by decide +kernel
theorem d_M_amend_39 : decode c_M_amend 39 = .ok (.iload_n 3, 1) := by decide +kernel
theorem d_M_amend_40 : decode c_M_amend 40 = .ok (.iload_n 1, 1) := by decide +kernel
theorem d_M_amend_41 : decode c_M_amend 41 = .ok (.if_icmp .lt 7, 3) := by decide +kernel
theorem d_M_amend_44 : decode c_M_amend 44 = .ok (.iconst 1, 1) := by decide +kernel
theorem d_M_amend_45 : decode c_M_amend 45 = .ok (.goto 4, 3) := by decide +kernel
theorem d_M_amend_48 : decode c_M_amend 48 = .ok (.iconst 0, 1) := by decide +kernel
theorem d_M_amend_49 : decode c_M_amend 49 = .ok (.istore 4, 2) := by decide +kernel
theorem d_M_amend_51 : decode c_M_amend 51 = .ok (.aload_n 0, 1) := by decide +kernel
theorem d_M_amend_52 : decode c_M_amend 52 = .ok (.iload 4, 2) := by decide +kernel
theorem d_M_amend_54 : decode c_M_amend 54 = .ok (.ifCond .ne 13, 3) := by decide +kernel
theorem d_M_amend_57 : decode c_M_amend 57 = .ok (.iload_n 2, 1) := by decide +kernel
theorem d_M_amend_58 : decode c_M_amend 58 = .ok (.iload_n 3, 1) := by decide +kernel
theorem d_M_amend_59 : decode c_M_amend 59 = .ok (.if_icmp .ne 12, 3) := by decide +kernel
theorem d_M_amend_62 : decode c_M_amend 62 = .ok (.iload_n 2, 1) := by decide +kernel
theorem d_M_amend_63 : decode c_M_amend 63 = .ok (.iconst (-1), 1) := by decide +kernel
theorem d_M_amend_64 : decode c_M_amend 64 = .ok (.if_icmp .eq 7, 3) := by decide +kernel
theorem d_M_amend_67 : decode c_M_amend 67 = .ok (.iconst 1, 1) := by decide +kernel
theorem d_M_amend_68 : decode c_M_amend 68 = .ok (.goto 4, 3) := by decide +kernel
theorem d_M_amend_71 : decode c_M_amend 71 = .ok (.iconst 0, 1) := by decide +kernel
theorem d_M_amend_72 : decode c_M_amend 72 = .ok (.putfield 60, 3) := by decide +kernel
theorem d_M_amend_75 : decode c_M_amend 75 = .ok (.aload_n 0, 1) := by decide +kernel
theorem d_M_amend_76 : decode c_M_amend 76 = .ok (.getfield 60, 3) := by decide +kernel
theorem d_M_amend_79 : decode c_M_amend 79 = .ok (.ifCond .ne 17, 3) := by decide +kernel
theorem d_M_amend_82 : decode c_M_amend 82 = .ok (.aload_n 0, 1) := by decide +kernel
theorem d_M_amend_83 : decode c_M_amend 83 = .ok (.getfield 7, 3) := by decide +kernel
theorem d_M_amend_86 : decode c_M_amend 86 = .ok (.iload_n 1, 1) := by decide +kernel
theorem d_M_amend_87 : decode c_M_amend 87 = .ok (.iload_n 2, 1) := by decide +kernel
theorem d_M_amend_88 : decode c_M_amend 88 = .ok (.iastore, 1) := by decide +kernel
theorem d_M_amend_89 : decode c_M_amend 89 = .ok (.aload_n 0, 1) := by decide +kernel
theorem d_M_amend_90 : decode c_M_amend 90 = .ok (.getfield 13, 3) := by decide +kernel
theorem d_M_amend_93 : decode c_M_amend 93 = .ok (.iload_n 1, 1) := by decide +kernel
theorem d_M_amend_94 : decode c_M_amend 94 = .ok (.iload_n 3, 1) := by decide +kernel
theorem d_M_amend_95 : decode c_M_amend 95 = .ok (.iastore, 1) := by decide +kernel
theorem d_M_amend_96 : decode c_M_amend 96 = .ok (.return_, 1) := by decide +kernel
theorem d_M_isMarried_0 : decode c_M_isMarried 0 = .ok (.aload_n 0, 1) := by decide +kernel
theorem d_M_isMarried_1 : decode c_M_isMarried 1 = .ok (.getfield 16, 3) := by decide +kernel
theorem d_M_isMarried_4 : decode c_M_isMarried 4 = .ok (.iload_n 1, 1) := by decide +kernel
theorem d_M_isMarried_5 : decode c_M_isMarried 5 = .ok (.iaload, 1) := by decide +kernel
theorem d_M_isMarried_6 : decode c_M_isMarried 6 = .ok (.ifCond .lt 21, 3) := by decide +kernel
theorem d_M_isMarried_9 : decode c_M_isMarried 9 = .ok (.aload_n 0, 1) := by decide +kernel
theorem d_M_isMarried_10 : decode c_M_isMarried 10 = .ok (.getfield 19, 3) := by decide +kernel
theorem d_M_isMarried_13 : decode c_M_isMarried 13 = .ok (.aload_n 0, 1) := by decide +kernel
theorem d_M_isMarried_14 : decode c_M_isMarried 14 = .ok (.getfield 16, 3) := by decide +kernel
theorem d_M_isMarried_17 : decode c_M_isMarried 17 = .ok (.iload_n 1, 1) := by decide +kernel
theorem d_M_isMarried_18 : decode c_M_isMarried 18 = .ok (.iaload, 1) := by decide +kernel
theorem d_M_isMarried_19 : decode c_M_isMarried 19 = .ok (.iaload, 1) := by decide +kernel
theorem d_M_isMarried_20 : decode c_M_isMarried 20 = .ok (.ifCond .ge 7, 3) := by decide +kernel
theorem d_M_isMarried_23 : decode c_M_isMarried 23 = .ok (.iconst 1, 1) := by decide +kernel
theorem d_M_isMarried_24 : decode c_M_isMarried 24 = .ok (.goto 4, 3) := by decide +kernel
theorem d_M_isMarried_27 : decode c_M_isMarried 27 = .ok (.iconst 0, 1) := by decide +kernel
theorem d_M_isMarried_28 : decode c_M_isMarried 28 = .ok (.ireturn, 1) := by decide +kernel
theorem d_M_marry_0 : decode c_M_marry 0 = .ok (.aload_n 0, 1) := by decide +kernel
theorem d_M_marry_1 : decode c_M_marry 1 = .ok (.aload_n 0, 1) := by decide +kernel
theorem d_M_marry_2 : decode c_M_marry 2 = .ok (.iload_n 1, 1) := by decide +kernel
theorem d_M_marry_3 : decode c_M_marry 3 = .ok (.invokevirtual 67, 3) := by decide +kernel
theorem d_M_marry_6 : decode c_M_marry 6 = .ok (.ifCond .ne 16, 3) := by decide +kernel
theorem d_M_marry_9 : decode c_M_marry 9 = .ok (.aload_n 0, 1) := by decide +kernel
theorem d_M_marry_10 : decode c_M_marry 10 = .ok (.iload_n 2, 1) := by decide +kernel
theorem d_M_marry_11 : decode c_M_marry 11 = .ok (.invokevirtual 67, 3) := by decide +kernel
theorem d_M_marry_14 : decode c_M_marry 14 = .ok (.ifCond .ne 8, 3) := by decide +kernel
theorem d_M_marry_17 : decode c_M_marry 17 = .ok (.iload_n 1, 1) := by decide +kernel
theorem d_M_marry_18 : decode c_M_marry 18 = .ok (.iload_n 2, 1) := by decide +kernel
theorem d_M_marry_19 : decode c_M_marry 19 = .ok (.if_icmp .ne 7, 3) := by decide +kernel
theorem d_M_marry_22 : decode c_M_marry 22 = .ok (.iconst 1, 1) := by decide +kernel
theorem d_M_marry_23 : decode c_M_marry 23 = .ok (.goto 42, 3) := by decide +kernel
theorem d_M_marry_26 : decode c_M_marry 26 = .ok (.aload_n 0, 1) := by decide +kernel
theorem d_M_marry_27 : decode c_M_marry 27 = .ok (.getfield 19, 3) := by decide +kernel
theorem d_M_marry_30 : decode c_M_marry 30 = .ok (.iload_n 1, 1) := by decide +kernel
theorem d_M_marry_31 : decode c_M_marry 31 = .ok (.iaload, 1) := by decide +kernel
theorem d_M_marry_32 : decode c_M_marry 32 = .ok (.ifCond .ge 28, 3) := by decide +kernel
theorem d_M_marry_35 : decode c_M_marry 35 = .ok (.aload_n 0, 1) := by decide +kernel
theorem d_M_marry_36 : decode c_M_marry 36 = .ok (.getfield 19, 3) := by decide +kernel
theorem d_M_marry_39 : decode c_M_marry 39 = .ok (.iload_n 2, 1) := by decide +kernel
theorem d_M_marry_40 : decode c_M_marry 40 = .ok (.iaload, 1) := by decide +kernel
theorem d_M_marry_41 : decode c_M_marry 41 = .ok (.ifCond .ge 19, 3) := by decide +kernel
theorem d_M_marry_44 : decode c_M_marry 44 = .ok (.aload_n 0, 1) := by decide +kernel
theorem d_M_marry_45 : decode c_M_marry 45 = .ok (.iload_n 1, 1) := by decide +kernel
theorem d_M_marry_46 : decode c_M_marry 46 = .ok (.invokevirtual 71, 3) := by decide +kernel
theorem d_M_marry_49 : decode c_M_marry 49 = .ok (.ifCond .ne 11, 3) := by decide +kernel
theorem d_M_marry_52 : decode c_M_marry 52 = .ok (.aload_n 0, 1) := by decide +kernel
theorem d_M_marry_53 : decode c_M_marry 53 = .ok (.iload_n 2, 1) := by decide +kernel
theorem d_M_marry_54 : decode c_M_marry 54 = .ok (.invokevirtual 71, 3) := by decide +kernel
theorem d_M_marry_57 : decode c_M_marry 57 = .ok (.ifCond .eq 7, 3) := by decide +kernel
theorem d_M_marry_60 : decode c_M_marry 60 = .ok (.iconst 2, 1) := by decide +kernel
theorem d_M_marry_61 : decode c_M_marry 61 = .ok (.goto 4, 3) := by decide +kernel
theorem d_M_marry_64 : decode c_M_marry 64 = .ok (.iconst 0, 1) := by decide +kernel
theorem d_M_marry_65 : decode c_M_marry 65 = .ok (.putfield 60, 3) := by decide +kernel
theorem d_M_marry_68 : decode c_M_marry 68 = .ok (.aload_n 0, 1) := by decide +kernel
theorem d_M_marry_69 : decode c_M_marry 69 = .ok (.getfield 60, 3) := by decide +kernel
theorem d_M_marry_72 : decode c_M_marry 72 = .ok (.ifCond .ne 17, 3) := by decide +kernel
theorem d_M_marry_75 : decode c_M_marry 75 = .ok (.aload_n 0, 1) := by decide +kernel
theorem d_M_marry_76 : decode c_M_marry 76 = .ok (.getfield 16, 3) := by decide +kernel
theorem d_M_marry_79 : decode c_M_marry 79 = .ok (.iload_n 1, 1) := by decide +kernel
theorem d_M_marry_80 : decode c_M_marry 80 = .ok (.iload_n 2, 1) := by decide +kernel
theorem d_M_marry_81 : decode c_M_marry 81 = .ok (.iastore, 1) := by decide +kernel
theorem d_M_marry_82 : decode c_M_marry 82 = .ok (.aload_n 0, 1) := by decide +kernel
theorem d_M_marry_83 : decode c_M_marry 83 = .ok (.getfield 16, 3) := by decide +kernel
theorem d_M_marry_86 : decode c_M_marry 86 = .ok (.iload_n 2, 1) := by decide +kernel
theorem d_M_marry_87 : decode c_M_marry 87 = .ok (.iload_n 1, 1) := by decide +kernel
theorem d_M_marry_88 : decode c_M_marry 88 = .ok (.iastore, 1) := by decide +kernel
theorem d_M_marry_89 : decode c_M_marry 89 = .ok (.return_, 1) := by decide +kernel
theorem d_M_divorce_0 : decode c_M_divorce 0 = .ok (.aload_n 0, 1) := by decide +kernel
theorem d_M_divorce_1 : decode c_M_divorce 1 = .ok (.aload_n 0, 1) := by decide +kernel
theorem d_M_divorce_2 : decode c_M_divorce 2 = .ok (.iload_n 1, 1) := by decide +kernel
theorem d_M_divorce_3 : decode c_M_divorce 3 = .ok (.invokevirtual 67, 3) := by decide +kernel
theorem d_M_divorce_6 : decode c_M_divorce 6 = .ok (.ifCond .eq 7, 3) := by decide +kernel
theorem d_M_divorce_9 : decode c_M_divorce 9 = .ok (.iconst 1, 1) := by decide +kernel
theorem d_M_divorce_10 : decode c_M_divorce 10 = .ok (.goto 4, 3) := by decide +kernel
theorem d_M_divorce_13 : decode c_M_divorce 13 = .ok (.iconst 0, 1) := by decide +kernel
theorem d_M_divorce_14 : decode c_M_divorce 14 = .ok (.putfield 60, 3) := by decide +kernel
theorem d_M_divorce_17 : decode c_M_divorce 17 = .ok (.aload_n 0, 1) := by decide +kernel
theorem d_M_divorce_18 : decode c_M_divorce 18 = .ok (.getfield 60, 3) := by decide +kernel
theorem d_M_divorce_21 : decode c_M_divorce 21 = .ok (.ifCond .gt 20, 3) := by decide +kernel
theorem d_M_divorce_24 : decode c_M_divorce 24 = .ok (.aload_n 0, 1) := by decide +kernel
theorem d_M_divorce_25 : decode c_M_divorce 25 = .ok (.getfield 19, 3) := by decide +kernel
theorem d_M_divorce_28 : decode c_M_divorce 28 = .ok (.iload_n 1, 1) := by decide +kernel
theorem d_M_divorce_29 : decode c_M_divorce 29 = .ok (.iaload, 1) := by decide +kernel
theorem d_M_divorce_30 : decode c_M_divorce 30 = .ok (.ifCond .ge 11, 3) := by decide +kernel
theorem d_M_divorce_33 : decode c_M_divorce 33 = .ok (.aload_n 0, 1) := by decide +kernel
theorem d_M_divorce_34 : decode c_M_divorce 34 = .ok (.iload_n 1, 1) := by decide +kernel
theorem d_M_divorce_35 : decode c_M_divorce 35 = .ok (.invokevirtual 71, 3) := by decide +kernel
theorem d_M_divorce_38 : decode c_M_divorce 38 = .ok (.ifCond .ne 5, 3) := by decide +kernel
theorem d_M_divorce_41 : decode c_M_divorce 41 = .ok (.iconst 0, 1) := by decide +kernel
theorem d_M_divorce_42 : decode c_M_divorce 42 = .ok (.ireturn, 1) := by decide +kernel
theorem d_M_divorce_43 : decode c_M_divorce 43 = .ok (.aload_n 0, 1) := by decide +kernel
theorem d_M_divorce_44 : decode c_M_divorce 44 = .ok (.getfield 16, 3) := by decide +kernel
theorem d_M_divorce_47 : decode c_M_divorce 47 = .ok (.aload_n 0, 1) := by decide +kernel
theorem d_M_divorce_48 : decode c_M_divorce 48 = .ok (.getfield 16, 3) := by decide +kernel
theorem d_M_divorce_51 : decode c_M_divorce 51 = .ok (.iload_n 1, 1) := by decide +kernel
theorem d_M_divorce_52 : decode c_M_divorce 52 = .ok (.iaload, 1) := by decide +kernel
theorem d_M_divorce_53 : decode c_M_divorce 53 = .ok (.iconst (-1), 1) := by decide +kernel
theorem d_M_divorce_54 : decode c_M_divorce 54 = .ok (.iastore, 1) := by decide +kernel
theorem d_M_divorce_55 : decode c_M_divorce 55 = .ok (.aload_n 0, 1) := by decide +kernel
theorem d_M_divorce_56 : decode c_M_divorce 56 = .ok (.getfield 16, 3) := by decide +kernel
theorem d_M_divorce_59 : decode c_M_divorce 59 = .ok (.iload_n 1, 1) := by decide +kernel
theorem d_M_divorce_60 : decode c_M_divorce 60 = .ok (.iconst (-1), 1) := by decide +kernel
theorem d_M_divorce_61 : decode c_M_divorce 61 = .ok (.iastore, 1) := by decide +kernel
theorem d_M_divorce_62 : decode c_M_divorce 62 = .ok (.iconst 1, 1) := by decide +kernel
theorem d_M_divorce_63 : decode c_M_divorce 63 = .ok (.ireturn, 1) := by decide +kernel
theorem d_M_spouse_0 : decode c_M_spouse 0 = .ok (.aload_n 0, 1) := by decide +kernel
theorem d_M_spouse_1 : decode c_M_spouse 1 = .ok (.aload_n 0, 1) := by decide +kernel
theorem d_M_spouse_2 : decode c_M_spouse 2 = .ok (.iload_n 1, 1) := by decide +kernel
theorem d_M_spouse_3 : decode c_M_spouse 3 = .ok (.invokevirtual 67, 3) := by decide +kernel
theorem d_M_spouse_6 : decode c_M_spouse 6 = .ok (.ifCond .eq 7, 3) := by decide +kernel
theorem d_M_spouse_9 : decode c_M_spouse 9 = .ok (.iconst 1, 1) := by decide +kernel
theorem d_M_spouse_10 : decode c_M_spouse 10 = .ok (.goto 4, 3) := by decide +kernel
theorem d_M_spouse_13 : decode c_M_spouse 13 = .ok (.iconst 0, 1) := by decide +kernel
theorem d_M_spouse_14 : decode c_M_spouse 14 = .ok (.putfield 60, 3) := by decide +kernel
theorem d_M_spouse_17 : decode c_M_spouse 17 = .ok (.aload_n 0, 1) := by decide +kernel
theorem d_M_spouse_18 : decode c_M_spouse 18 = .ok (.getfield 60, 3) := by decide +kernel
theorem d_M_spouse_21 : decode c_M_spouse 21 = .ok (.ifCond .le 7, 3) := by decide +kernel
theorem d_M_spouse_24 : decode c_M_spouse 24 = .ok (.iconst 0, 1) := by decide +kernel
theorem d_M_spouse_25 : decode c_M_spouse 25 = .ok (.goto 9, 3) := by decide +kernel
theorem d_M_spouse_28 : decode c_M_spouse 28 = .ok (.aload_n 0, 1) := by decide +kernel
theorem d_M_spouse_29 : decode c_M_spouse 29 = .ok (.getfield 16, 3) := by decide +kernel
theorem d_M_spouse_32 : decode c_M_spouse 32 = .ok (.iload_n 1, 1) := by decide +kernel
theorem d_M_spouse_33 : decode c_M_spouse 33 = .ok (.iaload, 1) := by decide +kernel
theorem d_M_spouse_34 : decode c_M_spouse 34 = .ok (.ireturn, 1) := by decide +kernel
theorem d_M_dies_0 : decode c_M_dies 0 = .ok (.aload_n 0, 1) := by decide +kernel
theorem d_M_dies_1 : decode c_M_dies 1 = .ok (.aload_n 0, 1) := by decide +kernel
theorem d_M_dies_2 : decode c_M_dies 2 = .ok (.iload_n 1, 1) := by decide +kernel
theorem d_M_dies_3 : decode c_M_dies 3 = .ok (.invokevirtual 67, 3) := by decide +kernel
theorem d_M_dies_6 : decode c_M_dies 6 = .ok (.ifCond .ne 14, 3) := by decide +kernel
theorem d_M_dies_9 : decode c_M_dies 9 = .ok (.iload_n 2, 1) := by decide +kernel
theorem d_M_dies_10 : decode c_M_dies 10 = .ok (.ifCond .lt 10, 3) := by decide +kernel
theorem d_M_dies_13 : decode c_M_dies 13 = .ok (.iload_n 2, 1) := by decide +kernel
theorem d_M_dies_14 : decode c_M_dies 14 = .ok (.sipush 999, 3) := by decide +kernel
theorem d_M_dies_17 : decode c_M_dies 17 = .ok (.if_icmp .le 7, 3) := by decide +kernel
theorem d_M_dies_20 : decode c_M_dies 20 = .ok (.iconst 1, 1) := by decide +kernel
theorem d_M_dies_21 : decode c_M_dies 21 = .ok (.goto 17, 3) := by decide +kernel
theorem d_M_dies_24 : decode c_M_dies 24 = .ok (.aload_n 0, 1) := by decide +kernel
theorem d_M_dies_25 : decode c_M_dies 25 = .ok (.getfield 19, 3) := by decide +kernel
theorem d_M_dies_28 : decode c_M_dies 28 = .ok (.iload_n 1, 1) := by decide +kernel
theorem d_M_dies_29 : decode c_M_dies 29 = .ok (.iaload, 1) := by decide +kernel
theorem d_M_dies_30 : decode c_M_dies 30 = .ok (.ifCond .lt 7, 3) := by decide +kernel
theorem d_M_dies_33 : decode c_M_dies 33 = .ok (.iconst 2, 1) := by decide +kernel
theorem d_M_dies_34 : decode c_M_dies 34 = .ok (.goto 4, 3) := by decide +kernel
theorem d_M_dies_37 : decode c_M_dies 37 = .ok (.iconst 0, 1) := by decide +kernel
theorem d_M_dies_38 : decode c_M_dies 38 = .ok (.putfield 60, 3) := by decide +kernel
theorem d_M_dies_41 : decode c_M_dies 41 = .ok (.aload_n 0, 1) := by decide +kernel
theorem d_M_dies_42 : decode c_M_dies 42 = .ok (.getfield 60, 3) := by decide +kernel
theorem d_M_dies_45 : decode c_M_dies 45 = .ok (.ifCond .ne 10, 3) := by decide +kernel
theorem d_M_dies_48 : decode c_M_dies 48 = .ok (.aload_n 0, 1) := by decide +kernel
theorem d_M_dies_49 : decode c_M_dies 49 = .ok (.getfield 19, 3) := by decide +kernel
theorem d_M_dies_52 : decode c_M_dies 52 = .ok (.iload_n 1, 1) := by decide +kernel
theorem d_M_dies_53 : decode c_M_dies 53 = .ok (.iload_n 2, 1) := by decide +kernel
theorem d_M_dies_54 : decode c_M_dies 54 = .ok (.iastore, 1) := by decide +kernel
theorem d_M_dies_55 : decode c_M_dies 55 = .ok (.return_, 1) := by decide +kernel
theorem d_M_exclude_0 : decode c_M_exclude 0 = .ok (.aload_n 0, 1) := by decide +kernel
theorem d_M_exclude_1 : decode c_M_exclude 1 = .ok (.aload_n 0, 1) := by decide +kernel
theorem d_M_exclude_2 : decode c_M_exclude 2 = .ok (.iload_n 1, 1) := by decide +kernel
theorem d_M_exclude_3 : decode c_M_exclude 3 = .ok (.invokevirtual 67, 3) := by decide +kernel
theorem d_M_exclude_6 : decode c_M_exclude 6 = .ok (.ifCond .ne 11, 3) := by decide +kernel
theorem d_M_exclude_9 : decode c_M_exclude 9 = .ok (.aload_n 0, 1) := by decide +kernel
theorem d_M_exclude_10 : decode c_M_exclude 10 = .ok (.iload_n 2, 1) := by decide +kernel
theorem d_M_exclude_11 : decode c_M_exclude 11 = .ok (.invokevirtual 67, 3) := by decide +kernel
theorem d_M_exclude_14 : decode c_M_exclude 14 = .ok (.ifCond .eq 7, 3) := by decide +kernel
theorem d_M_exclude_17 : decode c_M_exclude 17 = .ok (.iconst 1, 1) := by decide +kernel
theorem d_M_exclude_18 : decode c_M_exclude 18 = .ok (.goto 4, 3) := by decide +kernel
theorem d_M_exclude_21 : decode c_M_exclude 21 = .ok (.iconst 0, 1) := by decide +kernel
theorem d_M_exclude_22 : decode c_M_exclude 22 = .ok (.putfield 60, 3) := by decide +kernel
theorem d_M_exclude_25 : decode c_M_exclude 25 = .ok (.aload_n 0, 1) := by decide +kernel
theorem d_M_exclude_26 : decode c_M_exclude 26 = .ok (.getfield 60, 3) := by decide +kernel
theorem d_M_exclude_29 : decode c_M_exclude 29 = .ok (.ifCond .le 5, 3) := by decide +kernel
theorem d_M_exclude_32 : decode c_M_exclude 32 = .ok (.iconst 0, 1) := by decide +kernel
theorem d_M_exclude_33 : decode c_M_exclude 33 = .ok (.ireturn, 1) := by decide +kernel
theorem d_M_exclude_34 : decode c_M_exclude 34 = .ok (.aload_n 0, 1) := by decide +kernel
theorem d_M_exclude_35 : decode c_M_exclude 35 = .ok (.getfield 28, 3) := by decide +kernel
theorem d_M_exclude_38 : decode c_M_exclude 38 = .ok (.bipush 20, 2) := by decide +kernel
theorem d_M_exclude_40 : decode c_M_exclude 40 = .ok (.iload_n 1, 1) := by decide +kernel
theorem d_M_exclude_41 : decode c_M_exclude 41 = .ok (.imul, 1) := by decide +kernel
theorem d_M_exclude_42 : decode c_M_exclude 42 = .ok (.iload_n 2, 1) := by decide +kernel
theorem d_M_exclude_43 : decode c_M_exclude 43 = .ok (.iadd, 1) := by decide +kernel
theorem d_M_exclude_44 : decode c_M_exclude 44 = .ok (.baload, 1) := by decide +kernel
theorem d_M_exclude_45 : decode c_M_exclude 45 = .ok (.istore 4, 2) := by decide +kernel
theorem d_M_exclude_47 : decode c_M_exclude 47 = .ok (.aload_n 0, 1) := by decide +kernel
theorem d_M_exclude_48 : decode c_M_exclude 48 = .ok (.getfield 28, 3) := by decide +kernel
theorem d_M_exclude_51 : decode c_M_exclude 51 = .ok (.bipush 20, 2) := by decide +kernel
theorem d_M_exclude_53 : decode c_M_exclude 53 = .ok (.iload_n 1, 1) := by decide +kernel
theorem d_M_exclude_54 : decode c_M_exclude 54 = .ok (.imul, 1) := by decide +kernel
theorem d_M_exclude_55 : decode c_M_exclude 55 = .ok (.iload_n 2, 1) := by decide +kernel
theorem d_M_exclude_56 : decode c_M_exclude 56 = .ok (.iadd, 1) := by decide +kernel
theorem d_M_exclude_57 : decode c_M_exclude 57 = .ok (.iload_n 3, 1) := by decide +kernel
theorem d_M_exclude_58 : decode c_M_exclude 58 = .ok (.bastore, 1) := by decide +kernel
theorem d_M_exclude_59 : decode c_M_exclude 59 = .ok (.iload 4, 2) := by decide +kernel
theorem d_M_exclude_61 : decode c_M_exclude 61 = .ok (.iload_n 3, 1) := by decide +kernel
theorem d_M_exclude_62 : decode c_M_exclude 62 = .ok (.if_icmp .eq 7, 3) := by decide +kernel
theorem d_M_exclude_65 : decode c_M_exclude 65 = .ok (.iconst 1, 1) := by decide +kernel
theorem d_M_exclude_66 : decode c_M_exclude 66 = .ok (.goto 4, 3) := by decide +kernel
theorem d_M_exclude_69 : decode c_M_exclude 69 = .ok (.iconst 0, 1) := by decide +kernel
theorem d_M_exclude_70 : decode c_M_exclude 70 = .ok (.ireturn, 1) := by decide +kernel
theorem d_M_gift_0 : decode c_M_gift 0 = .ok (.aload_n 0, 1) := by decide +kernel
theorem d_M_gift_1 : decode c_M_gift 1 = .ok (.iload_n 1, 1) := by decide +kernel
theorem d_M_gift_2 : decode c_M_gift 2 = .ok (.invokevirtual 67, 3) := by decide +kernel
theorem d_M_gift_5 : decode c_M_gift 5 = .ok (.ifCond .ne 22, 3) := by decide +kernel
theorem d_M_gift_8 : decode c_M_gift 8 = .ok (.aload_n 0, 1) := by decide +kernel
theorem d_M_gift_9 : decode c_M_gift 9 = .ok (.iload_n 2, 1) := by decide +kernel
theorem d_M_gift_10 : decode c_M_gift 10 = .ok (.invokevirtual 67, 3) := by decide +kernel
theorem d_M_gift_13 : decode c_M_gift 13 = .ok (.ifCond .ne 14, 3) := by decide +kernel
theorem d_M_gift_16 : decode c_M_gift 16 = .ok (.iload_n 3, 1) := by decide +kernel
theorem d_M_gift_17 : decode c_M_gift 17 = .ok (.iconst 1, 1) := by decide +kernel
theorem d_M_gift_18 : decode c_M_gift 18 = .ok (.if_icmp .lt 9, 3) := by decide +kernel
theorem d_M_gift_21 : decode c_M_gift 21 = .ok (.iload_n 3, 1) := by decide +kernel
theorem d_M_gift_22 : decode c_M_gift 22 = .ok (.ldc 74, 2) := by decide +kernel
theorem d_M_gift_24 : decode c_M_gift 24 = .ok (.if_icmp .le 7, 3) := by decide +kernel
theorem d_M_gift_27 : decode c_M_gift 27 = .ok (.iconst 1, 1) := by decide +kernel
theorem d_M_gift_28 : decode c_M_gift 28 = .ok (.goto 4, 3) := by decide +kernel
theorem d_M_gift_31 : decode c_M_gift 31 = .ok (.iconst 0, 1) := by decide +kernel
theorem d_M_gift_32 : decode c_M_gift 32 = .ok (.istore 4, 2) := by decide +kernel
theorem d_M_gift_34 : decode c_M_gift 34 = .ok (.iload 4, 2) := by decide +kernel
theorem d_M_gift_36 : decode c_M_gift 36 = .ok (.ifCond .ne 23, 3) := by decide +kernel
theorem d_M_gift_39 : decode c_M_gift 39 = .ok (.aload_n 0, 1) := by decide +kernel
theorem d_M_gift_40 : decode c_M_gift 40 = .ok (.getfield 7, 3) := by decide +kernel
theorem d_M_gift_43 : decode c_M_gift 43 = .ok (.iload_n 1, 1) := by decide +kernel
theorem d_M_gift_44 : decode c_M_gift 44 = .ok (.iaload, 1) := by decide +kernel
theorem d_M_gift_45 : decode c_M_gift 45 = .ok (.iload_n 2, 1) := by decide +kernel
theorem d_M_gift_46 : decode c_M_gift 46 = .ok (.if_icmp .eq 17, 3) := by decide +kernel
theorem d_M_gift_49 : decode c_M_gift 49 = .ok (.aload_n 0, 1) := by decide +kernel
theorem d_M_gift_50 : decode c_M_gift 50 = .ok (.getfield 13, 3) := by decide +kernel
theorem d_M_gift_53 : decode c_M_gift 53 = .ok (.iload_n 1, 1) := by decide +kernel
theorem d_M_gift_54 : decode c_M_gift 54 = .ok (.iaload, 1) := by decide +kernel
theorem d_M_gift_55 : decode c_M_gift 55 = .ok (.iload_n 2, 1) := by decide +kernel
theorem d_M_gift_56 : decode c_M_gift 56 = .ok (.if_icmp .eq 7, 3) := by decide +kernel
theorem d_M_gift_59 : decode c_M_gift 59 = .ok (.iconst 1, 1) := by decide +kernel
theorem d_M_gift_60 : decode c_M_gift 60 = .ok (.goto 4, 3) := by decide +kernel
theorem d_M_gift_63 : decode c_M_gift 63 = .ok (.iconst 0, 1) := by decide +kernel
theorem d_M_gift_64 : decode c_M_gift 64 = .ok (.istore 4, 2) := by decide +kernel
theorem d_M_gift_66 : decode c_M_gift 66 = .ok (.aload_n 0, 1) := by decide +kernel
theorem d_M_gift_67 : decode c_M_gift 67 = .ok (.iload 4, 2) := by decide +kernel
theorem d_M_gift_69 : decode c_M_gift 69 = .ok (.ifCond .eq 7, 3) := by decide +kernel
theorem d_M_gift_72 : decode c_M_gift 72 = .ok (.iconst 1, 1) := by decide +kernel
theorem d_M_gift_73 : decode c_M_gift 73 = .ok (.goto 26, 3) := by decide +kernel
theorem d_M_gift_76 : decode c_M_gift 76 = .ok (.aload_n 0, 1) := by decide +kernel
theorem d_M_gift_77 : decode c_M_gift 77 = .ok (.getfield 25, 3) := by decide +kernel
theorem d_M_gift_80 : decode c_M_gift 80 = .ok (.bipush 20, 2) := by decide +kernel
theorem d_M_gift_82 : decode c_M_gift 82 = .ok (.iload_n 1, 1) := by decide +kernel
theorem d_M_gift_83 : decode c_M_gift 83 = .ok (.imul, 1) := by decide +kernel
theorem d_M_gift_84 : decode c_M_gift 84 = .ok (.iload_n 2, 1) := by decide +kernel
theorem d_M_gift_85 : decode c_M_gift 85 = .ok (.iadd, 1) := by decide +kernel
theorem d_M_gift_86 : decode c_M_gift 86 = .ok (.iaload, 1) := by decide +kernel
theorem d_M_gift_87 : decode c_M_gift 87 = .ok (.iload_n 3, 1) := by decide +kernel
theorem d_M_gift_88 : decode c_M_gift 88 = .ok (.iadd, 1) := by decide +kernel
theorem d_M_gift_89 : decode c_M_gift 89 = .ok (.ldc 74, 2) := by decide +kernel
theorem d_M_gift_91 : decode c_M_gift 91 = .ok (.if_icmp .le 7, 3) := by decide +kernel
theorem d_M_gift_94 : decode c_M_gift 94 = .ok (.iconst 2, 1) := by decide +kernel
theorem d_M_gift_95 : decode c_M_gift 95 = .ok (.goto 4, 3) := by decide +kernel
theorem d_M_gift_98 : decode c_M_gift 98 = .ok (.iconst 0, 1) := by decide +kernel
theorem d_M_gift_99 : decode c_M_gift 99 = .ok (.putfield 60, 3) := by decide +kernel
theorem d_M_gift_102 : decode c_M_gift 102 = .ok (.aload_n 0, 1) := by decide +kernel
theorem d_M_gift_103 : decode c_M_gift 103 = .ok (.getfield 60, 3) := by decide +kernel
theorem d_M_gift_106 : decode c_M_gift 106 = .ok (.ifCond .le 5, 3) := by decide +kernel
theorem d_M_gift_109 : decode c_M_gift 109 = .ok (.iconst 0, 1) := by decide +kernel
theorem d_M_gift_110 : decode c_M_gift 110 = .ok (.ireturn, 1) := by decide +kernel
theorem d_M_gift_111 : decode c_M_gift 111 = .ok (.aload_n 0, 1) := by decide +kernel
theorem d_M_gift_112 : decode c_M_gift 112 = .ok (.getfield 25, 3) := by decide +kernel
theorem d_M_gift_115 : decode c_M_gift 115 = .ok (.bipush 20, 2) := by decide +kernel
theorem d_M_gift_117 : decode c_M_gift 117 = .ok (.iload_n 1, 1) := by decide +kernel
theorem d_M_gift_118 : decode c_M_gift 118 = .ok (.imul, 1) := by decide +kernel
theorem d_M_gift_119 : decode c_M_gift 119 = .ok (.iload_n 2, 1) := by decide +kernel
theorem d_M_gift_120 : decode c_M_gift 120 = .ok (.iadd, 1) := by decide +kernel
theorem d_M_gift_121 : decode c_M_gift 121 = .ok (.aload_n 0, 1) := by decide +kernel
theorem d_M_gift_122 : decode c_M_gift 122 = .ok (.getfield 25, 3) := by decide +kernel
theorem d_M_gift_125 : decode c_M_gift 125 = .ok (.bipush 20, 2) := by decide +kernel
theorem d_M_gift_127 : decode c_M_gift 127 = .ok (.iload_n 1, 1) := by decide +kernel
theorem d_M_gift_128 : decode c_M_gift 128 = .ok (.imul, 1) := by decide +kernel
theorem d_M_gift_129 : decode c_M_gift 129 = .ok (.iload_n 2, 1) := by decide +kernel
theorem d_M_gift_130 : decode c_M_gift 130 = .ok (.iadd, 1) := by decide +kernel
theorem d_M_gift_131 : decode c_M_gift 131 = .ok (.iaload, 1) := by decide +kernel
theorem d_M_gift_132 : decode c_M_gift 132 = .ok (.iload_n 3, 1) := by decide +kernel
theorem d_M_gift_133 : decode c_M_gift 133 = .ok (.iadd, 1) := by decide +kernel
theorem d_M_gift_134 : decode c_M_gift 134 = .ok (.iastore, 1) := by decide +kernel
theorem d_M_gift_135 : decode c_M_gift 135 = .ok (.aload_n 0, 1) := by decide +kernel
theorem d_M_gift_136 : decode c_M_gift 136 = .ok (.getfield 25, 3) := by decide +kernel
theorem d_M_gift_139 : decode c_M_gift 139 = .ok (.bipush 20, 2) := by decide +kernel
theorem d_M_gift_141 : decode c_M_gift 141 = .ok (.iload_n 1, 1) := by decide +kernel
theorem d_M_gift_142 : decode c_M_gift 142 = .ok (.imul, 1) := by decide +kernel
theorem d_M_gift_143 : decode c_M_gift 143 = .ok (.iload_n 2, 1) := by decide +kernel
theorem d_M_gift_144 : decode c_M_gift 144 = .ok (.iadd, 1) := by decide +kernel
theorem d_M_gift_145 : decode c_M_gift 145 = .ok (.iaload, 1) := by decide +kernel
theorem d_M_gift_146 : decode c_M_gift 146 = .ok (.ireturn, 1) := by decide +kernel
theorem d_M_estate_0 : decode c_M_estate 0 = .ok (.aload_n 0, 1) := by decide +kernel
theorem d_M_estate_1 : decode c_M_estate 1 = .ok (.aload_n 0, 1) := by decide +kernel
theorem d_M_estate_2 : decode c_M_estate 2 = .ok (.iload_n 1, 1) := by decide +kernel
theorem d_M_estate_3 : decode c_M_estate 3 = .ok (.invokevirtual 67, 3) := by decide +kernel
theorem d_M_estate_6 : decode c_M_estate 6 = .ok (.ifCond .ne 13, 3) := by decide +kernel
theorem d_M_estate_9 : decode c_M_estate 9 = .ok (.iload_n 2, 1) := by decide +kernel
theorem d_M_estate_10 : decode c_M_estate 10 = .ok (.ifCond .lt 9, 3) := by decide +kernel
theorem d_M_estate_13 : decode c_M_estate 13 = .ok (.iload_n 2, 1) := by decide +kernel
theorem d_M_estate_14 : decode c_M_estate 14 = .ok (.ldc 74, 2) := by decide +kernel
theorem d_M_estate_16 : decode c_M_estate 16 = .ok (.if_icmp .le 7, 3) := by decide +kernel
theorem d_M_estate_19 : decode c_M_estate 19 = .ok (.iconst 1, 1) := by decide +kernel
theorem d_M_estate_20 : decode c_M_estate 20 = .ok (.goto 4, 3) := by decide +kernel
theorem d_M_estate_23 : decode c_M_estate 23 = .ok (.iconst 0, 1) := by decide +kernel
theorem d_M_estate_24 : decode c_M_estate 24 = .ok (.putfield 60, 3) := by decide +kernel
theorem d_M_estate_27 : decode c_M_estate 27 = .ok (.aload_n 0, 1) := by decide +kernel
theorem d_M_estate_28 : decode c_M_estate 28 = .ok (.getfield 60, 3) := by decide +kernel
theorem d_M_estate_31 : decode c_M_estate 31 = .ok (.ifCond .ne 10, 3) := by decide +kernel
theorem d_M_estate_34 : decode c_M_estate 34 = .ok (.aload_n 0, 1) := by decide +kernel
theorem d_M_estate_35 : decode c_M_estate 35 = .ok (.getfield 22, 3) := by decide +kernel
theorem d_M_estate_38 : decode c_M_estate 38 = .ok (.iload_n 1, 1) := by decide +kernel
theorem d_M_estate_39 : decode c_M_estate 39 = .ok (.iload_n 2, 1) := by decide +kernel
theorem d_M_estate_40 : decode c_M_estate 40 = .ok (.iastore, 1) := by decide +kernel
theorem d_M_estate_41 : decode c_M_estate 41 = .ok (.return_, 1) := by decide +kernel
theorem d_M_isChild_0 : decode c_M_isChild 0 = .ok (.aload_n 0, 1) := by decide +kernel
theorem d_M_isChild_1 : decode c_M_isChild 1 = .ok (.getfield 7, 3) := by decide +kernel
theorem d_M_isChild_4 : decode c_M_isChild 4 = .ok (.iload_n 1, 1) := by decide +kernel
theorem d_M_isChild_5 : decode c_M_isChild 5 = .ok (.iaload, 1) := by decide +kernel
theorem d_M_isChild_6 : decode c_M_isChild 6 = .ok (.iload_n 2, 1) := by decide +kernel
theorem d_M_isChild_7 : decode c_M_isChild 7 = .ok (.if_icmp .eq 13, 3) := by decide +kernel
theorem d_M_isChild_10 : decode c_M_isChild 10 = .ok (.aload_n 0, 1) := by decide +kernel
theorem d_M_isChild_11 : decode c_M_isChild 11 = .ok (.getfield 13, 3) := by decide +kernel
theorem d_M_isChild_14 : decode c_M_isChild 14 = .ok (.iload_n 1, 1) := by decide +kernel
theorem d_M_isChild_15 : decode c_M_isChild 15 = .ok (.iaload, 1) := by decide +kernel
theorem d_M_isChild_16 : decode c_M_isChild 16 = .ok (.iload_n 2, 1) := by decide +kernel
theorem d_M_isChild_17 : decode c_M_isChild 17 = .ok (.if_icmp .ne 7, 3) := by decide +kernel
theorem d_M_isChild_20 : decode c_M_isChild 20 = .ok (.iconst 1, 1) := by decide +kernel
theorem d_M_isChild_21 : decode c_M_isChild 21 = .ok (.goto 4, 3) := by decide +kernel
theorem d_M_isChild_24 : decode c_M_isChild 24 = .ok (.iconst 0, 1) := by decide +kernel
theorem d_M_isChild_25 : decode c_M_isChild 25 = .ok (.ireturn, 1) := by decide +kernel
theorem d_M_look_0 : decode c_M_look 0 = .ok (.aload_n 0, 1) := by decide +kernel
theorem d_M_look_1 : decode c_M_look 1 = .ok (.iload_n 1, 1) := by decide +kernel
theorem d_M_look_2 : decode c_M_look 2 = .ok (.putfield 75, 3) := by decide +kernel
theorem d_M_look_5 : decode c_M_look 5 = .ok (.aload_n 0, 1) := by decide +kernel
theorem d_M_look_6 : decode c_M_look 6 = .ok (.lconst 1, 1) := by decide +kernel
theorem d_M_look_7 : decode c_M_look 7 = .ok (.putfield 78, 3) := by decide +kernel
theorem d_M_look_10 : decode c_M_look 10 = .ok (.aload_n 0, 1) := by decide +kernel
theorem d_M_look_11 : decode c_M_look 11 = .ok (.getfield 64, 3) := by decide +kernel
theorem d_M_look_14 : decode c_M_look 14 = .ok (.iconst 1, 1) := by decide +kernel
theorem d_M_look_15 : decode c_M_look 15 = .ok (.isub, 1) := by decide +kernel
theorem d_M_look_16 : decode c_M_look 16 = .ok (.istore_n 2, 1) := by decide +kernel
theorem d_M_look_17 : decode c_M_look 17 = .ok (.iload_n 2, 1) := by decide +kernel
theorem d_M_look_18 : decode c_M_look 18 = .ok (.ifCond .lt 199, 3) := by decide +kernel
theorem d_M_look_21 : decode c_M_look 21 = .ok (.aload_n 0, 1) := by decide +kernel
theorem d_M_look_22 : decode c_M_look 22 = .ok (.getfield 32, 3) := by decide +kernel
theorem d_M_look_25 : decode c_M_look 25 = .ok (.iload_n 2, 1) := by decide +kernel
theorem d_M_look_26 : decode c_M_look 26 = .ok (.iload_n 2, 1) := by decide +kernel
theorem d_M_look_27 : decode c_M_look 27 = .ok (.iload_n 1, 1) := by decide +kernel
theorem d_M_look_28 : decode c_M_look 28 = .ok (.if_icmp .eq 45, 3) := by decide +kernel
theorem d_M_look_31 : decode c_M_look 31 = .ok (.aload_n 0, 1) := by decide +kernel
theorem d_M_look_32 : decode c_M_look 32 = .ok (.getfield 28, 3) := by decide +kernel
theorem d_M_look_35 : decode c_M_look 35 = .ok (.bipush 20, 2) := by decide +kernel
theorem d_M_look_37 : decode c_M_look 37 = .ok (.iload_n 2, 1) := by decide +kernel
theorem d_M_look_38 : decode c_M_look 38 = .ok (.imul, 1) := by decide +kernel
theorem d_M_look_39 : decode c_M_look 39 = .ok (.iload_n 1, 1) := by decide +kernel
theorem d_M_look_40 : decode c_M_look 40 = .ok (.iadd, 1) := by decide +kernel
theorem d_M_look_41 : decode c_M_look 41 = .ok (.baload, 1) := by decide +kernel
theorem d_M_look_42 : decode c_M_look 42 = .ok (.ifCond .ne 31, 3) := by decide +kernel
theorem d_M_look_45 : decode c_M_look 45 = .ok (.aload_n 0, 1) := by decide +kernel
theorem d_M_look_46 : decode c_M_look 46 = .ok (.getfield 19, 3) := by decide +kernel
theorem d_M_look_49 : decode c_M_look 49 = .ok (.iload_n 2, 1) := by decide +kernel
theorem d_M_look_50 : decode c_M_look 50 = .ok (.iaload, 1) := by decide +kernel
theorem d_M_look_51 : decode c_M_look 51 = .ok (.ifCond .lt 18, 3) := by decide +kernel
theorem d_M_look_54 : decode c_M_look 54 = .ok (.aload_n 0, 1) := by decide +kernel
theorem d_M_look_55 : decode c_M_look 55 = .ok (.getfield 19, 3) := by decide +kernel
theorem d_M_look_58 : decode c_M_look 58 = .ok (.iload_n 2, 1) := by decide +kernel
theorem d_M_look_59 : decode c_M_look 59 = .ok (.iaload, 1) := by decide +kernel
theorem d_M_look_60 : decode c_M_look 60 = .ok (.aload_n 0, 1) := by decide +kernel
theorem d_M_look_61 : decode c_M_look 61 = .ok (.getfield 19, 3) := by decide +kernel
theorem d_M_look_64 : decode c_M_look 64 = .ok (.iload_n 1, 1) := by decide +kernel
theorem d_M_look_65 : decode c_M_look 65 = .ok (.iaload, 1) := by decide +kernel
theorem d_M_look_66 : decode c_M_look 66 = .ok (.if_icmp .le 7, 3) := by decide +kernel
theorem d_M_look_69 : decode c_M_look 69 = .ok (.iconst 1, 1) := by decide +kernel
theorem d_M_look_70 : decode c_M_look 70 = .ok (.goto 4, 3) := by decide +kernel
theorem d_M_look_73 : decode c_M_look 73 = .ok (.iconst 0, 1) := by decide +kernel
theorem d_M_look_74 : decode c_M_look 74 = .ok (.bastore, 1) := by decide +kernel
theorem d_M_look_75 : decode c_M_look 75 = .ok (.aload_n 0, 1) := by decide +kernel
theorem d_M_look_76 : decode c_M_look 76 = .ok (.getfield 35, 3) := by decide +kernel
theorem d_M_look_79 : decode c_M_look 79 = .ok (.iload_n 2, 1) := by decide +kernel
theorem d_M_look_80 : decode c_M_look 80 = .ok (.iconst 0, 1) := by decide +kernel
theorem d_M_look_81 : decode c_M_look 81 = .ok (.iastore, 1) := by decide +kernel
theorem d_M_look_82 : decode c_M_look 82 = .ok (.iload_n 2, 1) := by decide +kernel
theorem d_M_look_83 : decode c_M_look 83 = .ok (.iconst 1, 1) := by decide +kernel
theorem d_M_look_84 : decode c_M_look 84 = .ok (.iadd, 1) := by decide +kernel
theorem d_M_look_85 : decode c_M_look 85 = .ok (.istore_n 3, 1) := by decide +kernel
theorem d_M_look_86 : decode c_M_look 86 = .ok (.iload_n 3, 1) := by decide +kernel
theorem d_M_look_87 : decode c_M_look 87 = .ok (.aload_n 0, 1) := by decide +kernel
theorem d_M_look_88 : decode c_M_look 88 = .ok (.getfield 64, 3) := by decide +kernel
theorem d_M_look_91 : decode c_M_look 91 = .ok (.if_icmp .ge 50, 3) := by decide +kernel
theorem d_M_look_94 : decode c_M_look 94 = .ok (.aload_n 0, 1) := by decide +kernel
theorem d_M_look_95 : decode c_M_look 95 = .ok (.getfield 35, 3) := by decide +kernel
theorem d_M_look_98 : decode c_M_look 98 = .ok (.iload_n 2, 1) := by decide +kernel
theorem d_M_look_99 : decode c_M_look 99 = .ok (.aload_n 0, 1) := by decide +kernel
theorem d_M_look_100 : decode c_M_look 100 = .ok (.iload_n 3, 1) := by decide +kernel
theorem d_M_look_101 : decode c_M_look 101 = .ok (.iload_n 2, 1) := by decide +kernel
theorem d_M_look_102 : decode c_M_look 102 = .ok (.invokevirtual 82, 3) := by decide +kernel
theorem d_M_look_105 : decode c_M_look 105 = .ok (.ifCond .eq 23, 3) := by decide +kernel
theorem d_M_look_108 : decode c_M_look 108 = .ok (.aload_n 0, 1) := by decide +kernel
theorem d_M_look_109 : decode c_M_look 109 = .ok (.getfield 38, 3) := by decide +kernel
theorem d_M_look_112 : decode c_M_look 112 = .ok (.iload_n 3, 1) := by decide +kernel
theorem d_M_look_113 : decode c_M_look 113 = .ok (.baload, 1) := by decide +kernel
theorem d_M_look_114 : decode c_M_look 114 = .ok (.ifCond .eq 14, 3) := by decide +kernel
theorem d_M_look_117 : decode c_M_look 117 = .ok (.aload_n 0, 1) := by decide +kernel
theorem d_M_look_118 : decode c_M_look 118 = .ok (.getfield 35, 3) := by decide +kernel
theorem d_M_look_121 : decode c_M_look 121 = .ok (.iload_n 2, 1) := by decide +kernel
theorem d_M_look_122 : decode c_M_look 122 = .ok (.iaload, 1) := by decide +kernel
theorem d_M_look_123 : decode c_M_look 123 = .ok (.iconst 1, 1) := by decide +kernel
theorem d_M_look_124 : decode c_M_look 124 = .ok (.iadd, 1) := by decide +kernel
theorem d_M_look_125 : decode c_M_look 125 = .ok (.goto 9, 3) := by decide +kernel
theorem d_M_look_128 : decode c_M_look 128 = .ok (.aload_n 0, 1) := by decide +kernel
theorem d_M_look_129 : decode c_M_look 129 = .ok (.getfield 35, 3) := by decide +kernel
theorem d_M_look_132 : decode c_M_look 132 = .ok (.iload_n 2, 1) := by decide +kernel
theorem d_M_look_133 : decode c_M_look 133 = .ok (.iaload, 1) := by decide +kernel
theorem d_M_look_134 : decode c_M_look 134 = .ok (.iastore, 1) := by decide +kernel
theorem d_M_look_135 : decode c_M_look 135 = .ok (.iinc 3 1, 3) := by decide +kernel
theorem d_M_look_138 : decode c_M_look 138 = .ok (.goto (-52), 3) := by decide +kernel
theorem d_M_look_141 : decode c_M_look 141 = .ok (.aload_n 0, 1) := by decide +kernel
theorem d_M_look_142 : decode c_M_look 142 = .ok (.getfield 38, 3) := by decide +kernel
theorem d_M_look_145 : decode c_M_look 145 = .ok (.iload_n 2, 1) := by decide +kernel
theorem d_M_look_146 : decode c_M_look 146 = .ok (.aload_n 0, 1) := by decide +kernel
theorem d_M_look_147 : decode c_M_look 147 = .ok (.getfield 32, 3) := by decide +kernel
theorem d_M_look_150 : decode c_M_look 150 = .ok (.iload_n 2, 1) := by decide +kernel
theorem d_M_look_151 : decode c_M_look 151 = .ok (.baload, 1) := by decide +kernel
theorem d_M_look_152 : decode c_M_look 152 = .ok (.ifCond .ne 12, 3) := by decide +kernel
theorem d_M_look_155 : decode c_M_look 155 = .ok (.aload_n 0, 1) := by decide +kernel
theorem d_M_look_156 : decode c_M_look 156 = .ok (.getfield 35, 3) := by decide +kernel
theorem d_M_look_159 : decode c_M_look 159 = .ok (.iload_n 2, 1) := by decide +kernel
theorem d_M_look_160 : decode c_M_look 160 = .ok (.iaload, 1) := by decide +kernel
theorem d_M_look_161 : decode c_M_look 161 = .ok (.ifCond .le 7, 3) := by decide +kernel
theorem d_M_look_164 : decode c_M_look 164 = .ok (.iconst 1, 1) := by decide +kernel
theorem d_M_look_165 : decode c_M_look 165 = .ok (.goto 4, 3) := by decide +kernel
theorem d_M_look_168 : decode c_M_look 168 = .ok (.iconst 0, 1) := by decide +kernel
theorem d_M_look_169 : decode c_M_look 169 = .ok (.bastore, 1) := by decide +kernel
theorem d_M_look_170 : decode c_M_look 170 = .ok (.aload_n 0, 1) := by decide +kernel
theorem d_M_look_171 : decode c_M_look 171 = .ok (.aload_n 0, 1) := by decide +kernel
theorem d_M_look_172 : decode c_M_look 172 = .ok (.getfield 32, 3) := by decide +kernel
theorem d_M_look_175 : decode c_M_look 175 = .ok (.iload_n 2, 1) := by decide +kernel
theorem d_M_look_176 : decode c_M_look 176 = .ok (.baload, 1) := by decide +kernel
theorem d_M_look_177 : decode c_M_look 177 = .ok (.ifCond .ne 27, 3) := by decide +kernel
theorem d_M_look_180 : decode c_M_look 180 = .ok (.aload_n 0, 1) := by decide +kernel
theorem d_M_look_181 : decode c_M_look 181 = .ok (.getfield 35, 3) := by decide +kernel
theorem d_M_look_184 : decode c_M_look 184 = .ok (.iload_n 2, 1) := by decide +kernel
theorem d_M_look_185 : decode c_M_look 185 = .ok (.iaload, 1) := by decide +kernel
theorem d_M_look_186 : decode c_M_look 186 = .ok (.ifCond .le 18, 3) := by decide +kernel
theorem d_M_look_189 : decode c_M_look 189 = .ok (.aload_n 0, 1) := by decide +kernel
theorem d_M_look_190 : decode c_M_look 190 = .ok (.getfield 78, 3) := by decide +kernel
theorem d_M_look_193 : decode c_M_look 193 = .ok (.aload_n 0, 1) := by decide +kernel
theorem d_M_look_194 : decode c_M_look 194 = .ok (.getfield 35, 3) := by decide +kernel
theorem d_M_look_197 : decode c_M_look 197 = .ok (.iload_n 2, 1) := by decide +kernel
theorem d_M_look_198 : decode c_M_look 198 = .ok (.iaload, 1) := by decide +kernel
theorem d_M_look_199 : decode c_M_look 199 = .ok (.i2l, 1) := by decide +kernel
theorem d_M_look_200 : decode c_M_look 200 = .ok (.lmul, 1) := by decide +kernel
theorem d_M_look_201 : decode c_M_look 201 = .ok (.goto 7, 3) := by decide +kernel
theorem d_M_look_204 : decode c_M_look 204 = .ok (.aload_n 0, 1) := by decide +kernel
theorem d_M_look_205 : decode c_M_look 205 = .ok (.getfield 78, 3) := by decide +kernel
theorem d_M_look_208 : decode c_M_look 208 = .ok (.putfield 78, 3) := by decide +kernel
theorem d_M_look_211 : decode c_M_look 211 = .ok (.iinc 2 (-1), 3) := by decide +kernel
theorem d_M_look_214 : decode c_M_look 214 = .ok (.goto (-197), 3) := by decide +kernel
theorem d_M_look_217 : decode c_M_look 217 = .ok (.iconst 1, 1) := by decide +kernel
theorem d_M_look_218 : decode c_M_look 218 = .ok (.istore_n 2, 1) := by decide +kernel
theorem d_M_look_219 : decode c_M_look 219 = .ok (.iload_n 2, 1) := by decide +kernel
theorem d_M_look_220 : decode c_M_look 220 = .ok (.iconst 4, 1) := by decide +kernel
theorem d_M_look_221 : decode c_M_look 221 = .ok (.if_icmp .ge 73, 3) := by decide +kernel
theorem d_M_look_224 : decode c_M_look 224 = .ok (.iconst 0, 1) := by decide +kernel
theorem d_M_look_225 : decode c_M_look 225 = .ok (.istore_n 3, 1) := by decide +kernel
theorem d_M_look_226 : decode c_M_look 226 = .ok (.iload_n 3, 1) := by decide +kernel
theorem d_M_look_227 : decode c_M_look 227 = .ok (.aload_n 0, 1) := by decide +kernel
theorem d_M_look_228 : decode c_M_look 228 = .ok (.getfield 64, 3) := by decide +kernel
theorem d_M_look_231 : decode c_M_look 231 = .ok (.if_icmp .ge 57, 3) := by decide +kernel
theorem d_M_look_234 : decode c_M_look 234 = .ok (.aload_n 0, 1) := by decide +kernel
theorem d_M_look_235 : decode c_M_look 235 = .ok (.getfield 38, 3) := by decide +kernel
theorem d_M_look_238 : decode c_M_look 238 = .ok (.bipush 20, 2) := by decide +kernel
theorem d_M_look_240 : decode c_M_look 240 = .ok (.iload_n 2, 1) := by decide +kernel
theorem d_M_look_241 : decode c_M_look 241 = .ok (.imul, 1) := by decide +kernel
theorem d_M_look_242 : decode c_M_look 242 = .ok (.iload_n 3, 1) := by decide +kernel
theorem d_M_look_243 : decode c_M_look 243 = .ok (.iadd, 1) := by decide +kernel
theorem d_M_look_244 : decode c_M_look 244 = .ok (.aload_n 0, 1) := by decide +kernel
theorem d_M_look_245 : decode c_M_look 245 = .ok (.iload_n 2, 1) := by decide +kernel
theorem d_M_look_246 : decode c_M_look 246 = .ok (.iconst 1, 1) := by decide +kernel
theorem d_M_look_247 : decode c_M_look 247 = .ok (.isub, 1) := by decide +kernel
theorem d_M_look_248 : decode c_M_look 248 = .ok (.aload_n 0, 1) := by decide +kernel
theorem d_M_look_249 : decode c_M_look 249 = .ok (.getfield 7, 3) := by decide +kernel
theorem d_M_look_252 : decode c_M_look 252 = .ok (.iload_n 3, 1) := by decide +kernel
theorem d_M_look_253 : decode c_M_look 253 = .ok (.iaload, 1) := by decide +kernel
theorem d_M_look_254 : decode c_M_look 254 = .ok (.invokevirtual 86, 3) := by decide +kernel
theorem d_M_look_257 : decode c_M_look 257 = .ok (.ifCond .ne 19, 3) := by decide +kernel
theorem d_M_look_260 : decode c_M_look 260 = .ok (.aload_n 0, 1) := by decide +kernel
theorem d_M_look_261 : decode c_M_look 261 = .ok (.iload_n 2, 1) := by decide +kernel
theorem d_M_look_262 : decode c_M_look 262 = .ok (.iconst 1, 1) := by decide +kernel
theorem d_M_look_263 : decode c_M_look 263 = .ok (.isub, 1) := by decide +kernel
theorem d_M_look_264 : decode c_M_look 264 = .ok (.aload_n 0, 1) := by decide +kernel
theorem d_M_look_265 : decode c_M_look 265 = .ok (.getfield 13, 3) := by decide +kernel
theorem d_M_look_268 : decode c_M_look 268 = .ok (.iload_n 3, 1) := by decide +kernel
theorem d_M_look_269 : decode c_M_look 269 = .ok (.iaload, 1) := by decide +kernel
theorem d_M_look_270 : decode c_M_look 270 = .ok (.invokevirtual 86, 3) := by decide +kernel
theorem d_M_look_273 : decode c_M_look 273 = .ok (.ifCond .eq 7, 3) := by decide +kernel
theorem d_M_look_276 : decode c_M_look 276 = .ok (.iconst 1, 1) := by decide +kernel
theorem d_M_look_277 : decode c_M_look 277 = .ok (.goto 4, 3) := by decide +kernel
theorem d_M_look_280 : decode c_M_look 280 = .ok (.iconst 0, 1) := by decide +kernel
theorem d_M_look_281 : decode c_M_look 281 = .ok (.bastore, 1) := by decide +kernel
theorem d_M_look_282 : decode c_M_look 282 = .ok (.iinc 3 1, 3) := by decide +kernel
theorem d_M_look_285 : decode c_M_look 285 = .ok (.goto (-59), 3) := by decide +kernel
theorem d_M_look_288 : decode c_M_look 288 = .ok (.iinc 2 1, 3) := by decide +kernel
theorem d_M_look_291 : decode c_M_look 291 = .ok (.goto (-72), 3) := by decide +kernel
theorem d_M_look_294 : decode c_M_look 294 = .ok (.aload_n 0, 1) := by decide +kernel
theorem d_M_look_295 : decode c_M_look 295 = .ok (.aload_n 0, 1) := by decide +kernel
theorem d_M_look_296 : decode c_M_look 296 = .ok (.getfield 16, 3) := by decide +kernel
theorem d_M_look_299 : decode c_M_look 299 = .ok (.iload_n 1, 1) := by decide +kernel
theorem d_M_look_300 : decode c_M_look 300 = .ok (.iaload, 1) := by decide +kernel
theorem d_M_look_301 : decode c_M_look 301 = .ok (.ifCond .lt 21, 3) := by decide +kernel
theorem d_M_look_304 : decode c_M_look 304 = .ok (.aload_n 0, 1) := by decide +kernel
theorem d_M_look_305 : decode c_M_look 305 = .ok (.getfield 32, 3) := by decide +kernel
theorem d_M_look_308 : decode c_M_look 308 = .ok (.aload_n 0, 1) := by decide +kernel
theorem d_M_look_309 : decode c_M_look 309 = .ok (.getfield 16, 3) := by decide +kernel
theorem d_M_look_312 : decode c_M_look 312 = .ok (.iload_n 1, 1) := by decide +kernel
theorem d_M_look_313 : decode c_M_look 313 = .ok (.iaload, 1) := by decide +kernel
theorem d_M_look_314 : decode c_M_look 314 = .ok (.baload, 1) := by decide +kernel
theorem d_M_look_315 : decode c_M_look 315 = .ok (.ifCond .eq 7, 3) := by decide +kernel
theorem d_M_look_318 : decode c_M_look 318 = .ok (.iconst 1, 1) := by decide +kernel
theorem d_M_look_319 : decode c_M_look 319 = .ok (.goto 4, 3) := by decide +kernel
theorem d_M_look_322 : decode c_M_look 322 = .ok (.iconst 0, 1) := by decide +kernel
theorem d_M_look_323 : decode c_M_look 323 = .ok (.putfield 89, 3) := by decide +kernel
theorem d_M_look_326 : decode c_M_look 326 = .ok (.aload_n 0, 1) := by decide +kernel
theorem d_M_look_327 : decode c_M_look 327 = .ok (.aload_n 0, 1) := by decide +kernel
theorem d_M_look_328 : decode c_M_look 328 = .ok (.getfield 89, 3) := by decide +kernel
theorem d_M_look_331 : decode c_M_look 331 = .ok (.ifCond .eq 7, 3) := by decide +kernel
theorem d_M_look_334 : decode c_M_look 334 = .ok (.iconst 4, 1) := by decide +kernel
theorem d_M_look_335 : decode c_M_look 335 = .ok (.goto 4, 3) := by decide +kernel
theorem d_M_look_338 : decode c_M_look 338 = .ok (.iconst 5, 1) := by decide +kernel
theorem d_M_look_339 : decode c_M_look 339 = .ok (.putfield 93, 3) := by decide +kernel
theorem d_M_look_342 : decode c_M_look 342 = .ok (.iconst 3, 1) := by decide +kernel
theorem d_M_look_343 : decode c_M_look 343 = .ok (.istore_n 2, 1) := by decide +kernel
theorem d_M_look_344 : decode c_M_look 344 = .ok (.iload_n 2, 1) := by decide +kernel
theorem d_M_look_345 : decode c_M_look 345 = .ok (.ifCond .le 47, 3) := by decide +kernel
theorem d_M_look_348 : decode c_M_look 348 = .ok (.aload_n 0, 1) := by decide +kernel
theorem d_M_look_349 : decode c_M_look 349 = .ok (.aload_n 0, 1) := by decide +kernel
theorem d_M_look_350 : decode c_M_look 350 = .ok (.getfield 38, 3) := by decide +kernel
theorem d_M_look_353 : decode c_M_look 353 = .ok (.bipush 20, 2) := by decide +kernel
theorem d_M_look_355 : decode c_M_look 355 = .ok (.iload_n 2, 1) := by decide +kernel
theorem d_M_look_356 : decode c_M_look 356 = .ok (.imul, 1) := by decide +kernel
theorem d_M_look_357 : decode c_M_look 357 = .ok (.iload_n 1, 1) := by decide +kernel
theorem d_M_look_358 : decode c_M_look 358 = .ok (.iadd, 1) := by decide +kernel
theorem d_M_look_359 : decode c_M_look 359 = .ok (.baload, 1) := by decide +kernel
theorem d_M_look_360 : decode c_M_look 360 = .ok (.ifCond .eq 19, 3) := by decide +kernel
theorem d_M_look_363 : decode c_M_look 363 = .ok (.iload_n 2, 1) := by decide +kernel
theorem d_M_look_364 : decode c_M_look 364 = .ok (.iconst 3, 1) := by decide +kernel
theorem d_M_look_365 : decode c_M_look 365 = .ok (.if_icmp .lt 10, 3) := by decide +kernel
theorem d_M_look_368 : decode c_M_look 368 = .ok (.aload_n 0, 1) := by decide +kernel
theorem d_M_look_369 : decode c_M_look 369 = .ok (.getfield 89, 3) := by decide +kernel
theorem d_M_look_372 : decode c_M_look 372 = .ok (.ifCond .ne 7, 3) := by decide +kernel
theorem d_M_look_375 : decode c_M_look 375 = .ok (.iload_n 2, 1) := by decide +kernel
theorem d_M_look_376 : decode c_M_look 376 = .ok (.goto 7, 3) := by decide +kernel
theorem d_M_look_379 : decode c_M_look 379 = .ok (.aload_n 0, 1) := by decide +kernel
theorem d_M_look_380 : decode c_M_look 380 = .ok (.getfield 93, 3) := by decide +kernel
theorem d_M_look_383 : decode c_M_look 383 = .ok (.putfield 93, 3) := by decide +kernel
theorem d_M_look_386 : decode c_M_look 386 = .ok (.iinc 2 (-1), 3) := by decide +kernel
theorem d_M_look_389 : decode c_M_look 389 = .ok (.goto (-45), 3) := by decide +kernel
theorem d_M_look_392 : decode c_M_look 392 = .ok (.aload_n 0, 1) := by decide +kernel
theorem d_M_look_393 : decode c_M_look 393 = .ok (.aload_n 0, 1) := by decide +kernel
theorem d_M_look_394 : decode c_M_look 394 = .ok (.getfield 35, 3) := by decide +kernel
theorem d_M_look_397 : decode c_M_look 397 = .ok (.iload_n 1, 1) := by decide +kernel
theorem d_M_look_398 : decode c_M_look 398 = .ok (.iaload, 1) := by decide +kernel
theorem d_M_look_399 : decode c_M_look 399 = .ok (.ifCond .le 7, 3) := by decide +kernel
theorem d_M_look_402 : decode c_M_look 402 = .ok (.iconst 0, 1) := by decide +kernel
theorem d_M_look_403 : decode c_M_look 403 = .ok (.goto 7, 3) := by decide +kernel
theorem d_M_look_406 : decode c_M_look 406 = .ok (.aload_n 0, 1) := by decide +kernel
theorem d_M_look_407 : decode c_M_look 407 = .ok (.getfield 93, 3) := by decide +kernel
theorem d_M_look_410 : decode c_M_look 410 = .ok (.putfield 93, 3) := by decide +kernel
theorem d_M_look_413 : decode c_M_look 413 = .ok (.return_, 1) := by decide +kernel
theorem d_M_hasLine_0 : decode c_M_hasLine 0 = .ok (.iload_n 2, 1) := by decide +kernel
theorem d_M_hasLine_1 : decode c_M_hasLine 1 = .ok (.ifCond .lt 21, 3) := by decide +kernel
theorem d_M_hasLine_4 : decode c_M_hasLine 4 = .ok (.aload_n 0, 1) := by decide +kernel
theorem d_M_hasLine_5 : decode c_M_hasLine 5 = .ok (.getfield 38, 3) := by decide +kernel
theorem d_M_hasLine_8 : decode c_M_hasLine 8 = .ok (.bipush 20, 2) := by decide +kernel
theorem d_M_hasLine_10 : decode c_M_hasLine 10 = .ok (.iload_n 1, 1) := by decide +kernel
theorem d_M_hasLine_11 : decode c_M_hasLine 11 = .ok (.imul, 1) := by decide +kernel
theorem d_M_hasLine_12 : decode c_M_hasLine 12 = .ok (.iload_n 2, 1) := by decide +kernel
theorem d_M_hasLine_13 : decode c_M_hasLine 13 = .ok (.iadd, 1) := by decide +kernel
theorem d_M_hasLine_14 : decode c_M_hasLine 14 = .ok (.baload, 1) := by decide +kernel
theorem d_M_hasLine_15 : decode c_M_hasLine 15 = .ok (.ifCond .eq 7, 3) := by decide +kernel
theorem d_M_hasLine_18 : decode c_M_hasLine 18 = .ok (.iconst 1, 1) := by decide +kernel
theorem d_M_hasLine_19 : decode c_M_hasLine 19 = .ok (.goto 4, 3) := by decide +kernel
theorem d_M_hasLine_22 : decode c_M_hasLine 22 = .ok (.iconst 0, 1) := by decide +kernel
theorem d_M_hasLine_23 : decode c_M_hasLine 23 = .ok (.ireturn, 1) := by decide +kernel
theorem d_M_clear_0 : decode c_M_clear 0 = .ok (.iconst 0, 1) := by decide +kernel
theorem d_M_clear_1 : decode c_M_clear 1 = .ok (.istore_n 1, 1) := by decide +kernel
theorem d_M_clear_2 : decode c_M_clear 2 = .ok (.iload_n 1, 1) := by decide +kernel
theorem d_M_clear_3 : decode c_M_clear 3 = .ok (.bipush 80, 2) := by decide +kernel
theorem d_M_clear_5 : decode c_M_clear 5 = .ok (.if_icmp .ge 16, 3) := by decide +kernel
theorem d_M_clear_8 : decode c_M_clear 8 = .ok (.aload_n 0, 1) := by decide +kernel
theorem d_M_clear_9 : decode c_M_clear 9 = .ok (.getfield 41, 3) := by decide +kernel
theorem d_M_clear_12 : decode c_M_clear 12 = .ok (.iload_n 1, 1) := by decide +kernel
theorem d_M_clear_13 : decode c_M_clear 13 = .ok (.lconst 0, 1) := by decide +kernel
theorem d_M_clear_14 : decode c_M_clear 14 = .ok (.lastore, 1) := by decide +kernel
theorem d_M_clear_15 : decode c_M_clear 15 = .ok (.iinc 1 1, 3) := by decide +kernel
theorem d_M_clear_18 : decode c_M_clear 18 = .ok (.goto (-16), 3) := by decide +kernel
theorem d_M_clear_21 : decode c_M_clear 21 = .ok (.iconst 0, 1) := by decide +kernel
theorem d_M_clear_22 : decode c_M_clear 22 = .ok (.istore_n 1, 1) := by decide +kernel
theorem d_M_clear_23 : decode c_M_clear 23 = .ok (.iload_n 1, 1) := by decide +kernel
theorem d_M_clear_24 : decode c_M_clear 24 = .ok (.bipush 20, 2) := by decide +kernel
theorem d_M_clear_26 : decode c_M_clear 26 = .ok (.if_icmp .ge 16, 3) := by decide +kernel
theorem d_M_clear_29 : decode c_M_clear 29 = .ok (.aload_n 0, 1) := by decide +kernel
theorem d_M_clear_30 : decode c_M_clear 30 = .ok (.getfield 45, 3) := by decide +kernel
theorem d_M_clear_33 : decode c_M_clear 33 = .ok (.iload_n 1, 1) := by decide +kernel
theorem d_M_clear_34 : decode c_M_clear 34 = .ok (.lconst 0, 1) := by decide +kernel
theorem d_M_clear_35 : decode c_M_clear 35 = .ok (.lastore, 1) := by decide +kernel
theorem d_M_clear_36 : decode c_M_clear 36 = .ok (.iinc 1 1, 3) := by decide +kernel
theorem d_M_clear_39 : decode c_M_clear 39 = .ok (.goto (-16), 3) := by decide +kernel
theorem d_M_clear_42 : decode c_M_clear 42 = .ok (.return_, 1) := by decide +kernel
theorem d_M_climb_0 : decode c_M_climb 0 = .ok (.iload_n 1, 1) := by decide +kernel
theorem d_M_climb_1 : decode c_M_climb 1 = .ok (.istore_n 2, 1) := by decide +kernel
theorem d_M_climb_2 : decode c_M_climb 2 = .ok (.iload_n 2, 1) := by decide +kernel
theorem d_M_climb_3 : decode c_M_climb 3 = .ok (.ifCond .le 166, 3) := by decide +kernel
theorem d_M_climb_6 : decode c_M_climb 6 = .ok (.iconst 0, 1) := by decide +kernel
theorem d_M_climb_7 : decode c_M_climb 7 = .ok (.istore_n 3, 1) := by decide +kernel
theorem d_M_climb_8 : decode c_M_climb 8 = .ok (.iload_n 3, 1) := by decide +kernel
theorem d_M_climb_9 : decode c_M_climb 9 = .ok (.aload_n 0, 1) := by decide +kernel
theorem d_M_climb_10 : decode c_M_climb 10 = .ok (.getfield 64, 3) := by decide +kernel
theorem d_M_climb_13 : decode c_M_climb 13 = .ok (.if_icmp .ge 150, 3) := by decide +kernel
theorem d_M_climb_16 : decode c_M_climb 16 = .ok (.aload_n 0, 1) := by decide +kernel
theorem d_M_climb_17 : decode c_M_climb 17 = .ok (.getfield 41, 3) := by decide +kernel
theorem d_M_climb_20 : decode c_M_climb 20 = .ok (.bipush 20, 2) := by decide +kernel
theorem d_M_climb_22 : decode c_M_climb 22 = .ok (.iload_n 2, 1) := by decide +kernel
theorem d_M_climb_23 : decode c_M_climb 23 = .ok (.imul, 1) := by decide +kernel
theorem d_M_climb_24 : decode c_M_climb 24 = .ok (.iload_n 3, 1) := by decide +kernel
theorem d_M_climb_25 : decode c_M_climb 25 = .ok (.iadd, 1) := by decide +kernel
theorem d_M_climb_26 : decode c_M_climb 26 = .ok (.laload, 1) := by decide +kernel
theorem d_M_climb_27 : decode c_M_climb 27 = .ok (.lstore 4, 2) := by decide +kernel
theorem d_M_climb_29 : decode c_M_climb 29 = .ok (.aload_n 0, 1) := by decide +kernel
theorem d_M_climb_30 : decode c_M_climb 30 = .ok (.iload_n 2, 1) := by decide +kernel
theorem d_M_climb_31 : decode c_M_climb 31 = .ok (.iconst 1, 1) := by decide +kernel
theorem d_M_climb_32 : decode c_M_climb 32 = .ok (.isub, 1) := by decide +kernel
theorem d_M_climb_33 : decode c_M_climb 33 = .ok (.aload_n 0, 1) := by decide +kernel
theorem d_M_climb_34 : decode c_M_climb 34 = .ok (.getfield 7, 3) := by decide +kernel
theorem d_M_climb_37 : decode c_M_climb 37 = .ok (.iload_n 3, 1) := by decide +kernel
theorem d_M_climb_38 : decode c_M_climb 38 = .ok (.iaload, 1) := by decide +kernel
theorem d_M_climb_39 : decode c_M_climb 39 = .ok (.invokevirtual 86, 3) := by decide +kernel
theorem d_M_climb_42 : decode c_M_climb 42 = .ok (.istore 6, 2) := by decide +kernel
theorem d_M_climb_44 : decode c_M_climb 44 = .ok (.aload_n 0, 1) := by decide +kernel
theorem d_M_climb_45 : decode c_M_climb 45 = .ok (.iload_n 2, 1) := by decide +kernel
theorem d_M_climb_46 : decode c_M_climb 46 = .ok (.iconst 1, 1) := by decide +kernel
theorem d_M_climb_47 : decode c_M_climb 47 = .ok (.isub, 1) := by decide +kernel
theorem d_M_climb_48 : decode c_M_climb 48 = .ok (.aload_n 0, 1) := by decide +kernel
theorem d_M_climb_49 : decode c_M_climb 49 = .ok (.getfield 13, 3) := by decide +kernel
theorem d_M_climb_52 : decode c_M_climb 52 = .ok (.iload_n 3, 1) := by decide +kernel
theorem d_M_climb_53 : decode c_M_climb 53 = .ok (.iaload, 1) := by decide +kernel
theorem d_M_climb_54 : decode c_M_climb 54 = .ok (.invokevirtual 86, 3) := by decide +kernel
theorem d_M_climb_57 : decode c_M_climb 57 = .ok (.istore 7, 2) := by decide +kernel
theorem d_M_climb_59 : decode c_M_climb 59 = .ok (.lload 4, 2) := by decide +kernel
theorem d_M_climb_61 : decode c_M_climb 61 = .ok (.lconst 0, 1) := by decide +kernel
theorem d_M_climb_62 : decode c_M_climb 62 = .ok (.lcmp, 1) := by decide +kernel
theorem d_M_climb_63 : decode c_M_climb 63 = .ok (.ifCond .le 45, 3) := by decide +kernel
theorem d_M_climb_66 : decode c_M_climb 66 = .ok (.iload 6, 2) := by decide +kernel
theorem d_M_climb_68 : decode c_M_climb 68 = .ok (.ifCond .eq 40, 3) := by decide +kernel
theorem d_M_climb_71 : decode c_M_climb 71 = .ok (.aload_n 0, 1) := by decide +kernel
theorem d_M_climb_72 : decode c_M_climb 72 = .ok (.getfield 41, 3) := by decide +kernel
theorem d_M_climb_75 : decode c_M_climb 75 = .ok (.bipush 20, 2) := by decide +kernel
theorem d_M_climb_77 : decode c_M_climb 77 = .ok (.iload_n 2, 1) := by decide +kernel
theorem d_M_climb_78 : decode c_M_climb 78 = .ok (.iconst 1, 1) := by decide +kernel
theorem d_M_climb_79 : decode c_M_climb 79 = .ok (.isub, 1) := by decide +kernel
theorem d_M_climb_80 : decode c_M_climb 80 = .ok (.imul, 1) := by decide +kernel
theorem d_M_climb_81 : decode c_M_climb 81 = .ok (.aload_n 0, 1) := by decide +kernel
theorem d_M_climb_82 : decode c_M_climb 82 = .ok (.getfield 7, 3) := by decide +kernel
theorem d_M_climb_85 : decode c_M_climb 85 = .ok (.iload_n 3, 1) := by decide +kernel
theorem d_M_climb_86 : decode c_M_climb 86 = .ok (.iaload, 1) := by decide +kernel
theorem d_M_climb_87 : decode c_M_climb 87 = .ok (.iadd, 1) := by decide +kernel
theorem d_M_climb_88 : decode c_M_climb 88 = .ok (.dup2, 1) := by decide +kernel
theorem d_M_climb_89 : decode c_M_climb 89 = .ok (.laload, 1) := by decide +kernel
theorem d_M_climb_90 : decode c_M_climb 90 = .ok (.iload 7, 2) := by decide +kernel
theorem d_M_climb_92 : decode c_M_climb 92 = .ok (.ifCond .eq 12, 3) := by decide +kernel
theorem d_M_climb_95 : decode c_M_climb 95 = .ok (.lload 4, 2) := by decide +kernel
theorem d_M_climb_97 : decode c_M_climb 97 = .ok (.ldc2_w 96, 3) := by decide +kernel
theorem d_M_climb_100 : decode c_M_climb 100 = .ok (.ldiv, 1) := by decide +kernel
theorem d_M_climb_101 : decode c_M_climb 101 = .ok (.goto 5, 3) := by decide +kernel
theorem d_M_climb_104 : decode c_M_climb 104 = .ok (.lload 4, 2) := by decide +kernel
theorem d_M_climb_106 : decode c_M_climb 106 = .ok (.ladd, 1) := by decide +kernel
theorem d_M_climb_107 : decode c_M_climb 107 = .ok (.lastore, 1) := by decide +kernel
theorem d_M_climb_108 : decode c_M_climb 108 = .ok (.lload 4, 2) := by decide +kernel
theorem d_M_climb_110 : decode c_M_climb 110 = .ok (.lconst 0, 1) := by decide +kernel
theorem d_M_climb_111 : decode c_M_climb 111 = .ok (.lcmp, 1) := by decide +kernel
theorem d_M_climb_112 : decode c_M_climb 112 = .ok (.ifCond .le 45, 3) := by decide +kernel
theorem d_M_climb_115 : decode c_M_climb 115 = .ok (.iload 7, 2) := by decide +kernel
theorem d_M_climb_117 : decode c_M_climb 117 = .ok (.ifCond .eq 40, 3) := by decide +kernel
theorem d_M_climb_120 : decode c_M_climb 120 = .ok (.aload_n 0, 1) := by decide +kernel
theorem d_M_climb_121 : decode c_M_climb 121 = .ok (.getfield 41, 3) := by decide +kernel
theorem d_M_climb_124 : decode c_M_climb 124 = .ok (.bipush 20, 2) := by decide +kernel
theorem d_M_climb_126 : decode c_M_climb 126 = .ok (.iload_n 2, 1) := by decide +kernel
theorem d_M_climb_127 : decode c_M_climb 127 = .ok (.iconst 1, 1) := by decide +kernel
theorem d_M_climb_128 : decode c_M_climb 128 = .ok (.isub, 1) := by decide +kernel
theorem d_M_climb_129 : decode c_M_climb 129 = .ok (.imul, 1) := by decide +kernel
theorem d_M_climb_130 : decode c_M_climb 130 = .ok (.aload_n 0, 1) := by decide +kernel
theorem d_M_climb_131 : decode c_M_climb 131 = .ok (.getfield 13, 3) := by decide +kernel
theorem d_M_climb_134 : decode c_M_climb 134 = .ok (.iload_n 3, 1) := by decide +kernel
theorem d_M_climb_135 : decode c_M_climb 135 = .ok (.iaload, 1) := by decide +kernel
theorem d_M_climb_136 : decode c_M_climb 136 = .ok (.iadd, 1) := by decide +kernel
theorem d_M_climb_137 : decode c_M_climb 137 = .ok (.dup2, 1) := by decide +kernel
theorem d_M_climb_138 : decode c_M_climb 138 = .ok (.laload, 1) := by decide +kernel
theorem d_M_climb_139 : decode c_M_climb 139 = .ok (.iload 6, 2) := by decide +kernel
theorem d_M_climb_141 : decode c_M_climb 141 = .ok (.ifCond .eq 12, 3) := by decide +kernel
theorem d_M_climb_144 : decode c_M_climb 144 = .ok (.lload 4, 2) := by decide +kernel
theorem d_M_climb_146 : decode c_M_climb 146 = .ok (.ldc2_w 96, 3) := by decide +kernel
theorem d_M_climb_149 : decode c_M_climb 149 = .ok (.ldiv, 1) := by decide +kernel
theorem d_M_climb_150 : decode c_M_climb 150 = .ok (.goto 5, 3) := by decide +kernel
theorem d_M_climb_153 : decode c_M_climb 153 = .ok (.lload 4, 2) := by decide +kernel
theorem d_M_climb_155 : decode c_M_climb 155 = .ok (.ladd, 1) := by decide +kernel
theorem d_M_climb_156 : decode c_M_climb 156 = .ok (.lastore, 1) := by decide +kernel
theorem d_M_climb_157 : decode c_M_climb 157 = .ok (.iinc 3 1, 3) := by decide +kernel
theorem d_M_climb_160 : decode c_M_climb 160 = .ok (.goto (-152), 3) := by decide +kernel
theorem d_M_climb_163 : decode c_M_climb 163 = .ok (.iinc 2 (-1), 3) := by decide +kernel
theorem d_M_climb_166 : decode c_M_climb 166 = .ok (.goto (-164), 3) := by decide +kernel
theorem d_M_climb_169 : decode c_M_climb 169 = .ok (.return_, 1) := by decide +kernel
theorem d_M_descend_0 : decode c_M_descend 0 = .ok (.iconst 0, 1) := by decide +kernel
theorem d_M_descend_1 : decode c_M_descend 1 = .ok (.istore_n 1, 1) := by decide +kernel
theorem d_M_descend_2 : decode c_M_descend 2 = .ok (.iload_n 1, 1) := by decide +kernel
theorem d_M_descend_3 : decode c_M_descend 3 = .ok (.aload_n 0, 1) := by decide +kernel
theorem d_M_descend_4 : decode c_M_descend 4 = .ok (.getfield 64, 3) := by decide +kernel
theorem d_M_descend_7 : decode c_M_descend 7 = .ok (.if_icmp .ge 103, 3) := by decide +kernel
theorem d_M_descend_10 : decode c_M_descend 10 = .ok (.aload_n 0, 1) := by decide +kernel
theorem d_M_descend_11 : decode c_M_descend 11 = .ok (.getfield 41, 3) := by decide +kernel
theorem d_M_descend_14 : decode c_M_descend 14 = .ok (.iload_n 1, 1) := by decide +kernel
theorem d_M_descend_15 : decode c_M_descend 15 = .ok (.laload, 1) := by decide +kernel
theorem d_M_descend_16 : decode c_M_descend 16 = .ok (.lstore_n 2, 1) := by decide +kernel
theorem d_M_descend_17 : decode c_M_descend 17 = .ok (.aload_n 0, 1) := by decide +kernel
theorem d_M_descend_18 : decode c_M_descend 18 = .ok (.getfield 32, 3) := by decide +kernel
theorem d_M_descend_21 : decode c_M_descend 21 = .ok (.iload_n 1, 1) := by decide +kernel
theorem d_M_descend_22 : decode c_M_descend 22 = .ok (.baload, 1) := by decide +kernel
theorem d_M_descend_23 : decode c_M_descend 23 = .ok (.ifCond .eq 16, 3) := by decide +kernel
theorem d_M_descend_26 : decode c_M_descend 26 = .ok (.aload_n 0, 1) := by decide +kernel
theorem d_M_descend_27 : decode c_M_descend 27 = .ok (.getfield 45, 3) := by decide +kernel
theorem d_M_descend_30 : decode c_M_descend 30 = .ok (.iload_n 1, 1) := by decide +kernel
theorem d_M_descend_31 : decode c_M_descend 31 = .ok (.dup2, 1) := by decide +kernel
theorem d_M_descend_32 : decode c_M_descend 32 = .ok (.laload, 1) := by decide +kernel
theorem d_M_descend_33 : decode c_M_descend 33 = .ok (.lload_n 2, 1) := by decide +kernel
theorem d_M_descend_34 : decode c_M_descend 34 = .ok (.ladd, 1) := by decide +kernel
theorem d_M_descend_35 : decode c_M_descend 35 = .ok (.lastore, 1) := by decide +kernel
theorem d_M_descend_36 : decode c_M_descend 36 = .ok (.goto 68, 3) := by decide +kernel
theorem d_M_descend_39 : decode c_M_descend 39 = .ok (.lload_n 2, 1) := by decide +kernel
theorem d_M_descend_40 : decode c_M_descend 40 = .ok (.lconst 0, 1) := by decide +kernel
theorem d_M_descend_41 : decode c_M_descend 41 = .ok (.lcmp, 1) := by decide +kernel
theorem d_M_descend_42 : decode c_M_descend 42 = .ok (.ifCond .le 62, 3) := by decide +kernel
theorem d_M_descend_45 : decode c_M_descend 45 = .ok (.iload_n 1, 1) := by decide +kernel
theorem d_M_descend_46 : decode c_M_descend 46 = .ok (.iconst 1, 1) := by decide +kernel
theorem d_M_descend_47 : decode c_M_descend 47 = .ok (.iadd, 1) := by decide +kernel
theorem d_M_descend_48 : decode c_M_descend 48 = .ok (.istore 4, 2) := by decide +kernel
theorem d_M_descend_50 : decode c_M_descend 50 = .ok (.iload 4, 2) := by decide +kernel
theorem d_M_descend_52 : decode c_M_descend 52 = .ok (.aload_n 0, 1) := by decide +kernel
theorem d_M_descend_53 : decode c_M_descend 53 = .ok (.getfield 64, 3) := by decide +kernel
theorem d_M_descend_56 : decode c_M_descend 56 = .ok (.if_icmp .ge 48, 3) := by decide +kernel
theorem d_M_descend_59 : decode c_M_descend 59 = .ok (.aload_n 0, 1) := by decide +kernel
theorem d_M_descend_60 : decode c_M_descend 60 = .ok (.iload 4, 2) := by decide +kernel
theorem d_M_descend_62 : decode c_M_descend 62 = .ok (.iload_n 1, 1) := by decide +kernel
theorem d_M_descend_63 : decode c_M_descend 63 = .ok (.invokevirtual 82, 3) := by decide +kernel
theorem d_M_descend_66 : decode c_M_descend 66 = .ok (.ifCond .eq 32, 3) := by decide +kernel
theorem d_M_descend_69 : decode c_M_descend 69 = .ok (.aload_n 0, 1) := by decide +kernel
theorem d_M_descend_70 : decode c_M_descend 70 = .ok (.getfield 38, 3) := by decide +kernel
theorem d_M_descend_73 : decode c_M_descend 73 = .ok (.iload 4, 2) := by decide +kernel
theorem d_M_descend_75 : decode c_M_descend 75 = .ok (.baload, 1) := by decide +kernel
theorem d_M_descend_76 : decode c_M_descend 76 = .ok (.ifCond .eq 22, 3) := by decide +kernel
theorem d_M_descend_79 : decode c_M_descend 79 = .ok (.aload_n 0, 1) := by decide +kernel
theorem d_M_descend_80 : decode c_M_descend 80 = .ok (.getfield 41, 3) := by decide +kernel
theorem d_M_descend_83 : decode c_M_descend 83 = .ok (.iload 4, 2) := by decide +kernel
theorem d_M_descend_85 : decode c_M_descend 85 = .ok (.dup2, 1) := by decide +kernel
theorem d_M_descend_86 : decode c_M_descend 86 = .ok (.laload, 1) := by decide +kernel
theorem d_M_descend_87 : decode c_M_descend 87 = .ok (.lload_n 2, 1) := by decide +kernel
theorem d_M_descend_88 : decode c_M_descend 88 = .ok (.aload_n 0, 1) := by decide +kernel
theorem d_M_descend_89 : decode c_M_descend 89 = .ok (.getfield 35, 3) := by decide +kernel
theorem d_M_descend_92 : decode c_M_descend 92 = .ok (.iload_n 1, 1) := by decide +kernel
theorem d_M_descend_93 : decode c_M_descend 93 = .ok (.iaload, 1) := by decide +kernel
theorem d_M_descend_94 : decode c_M_descend 94 = .ok (.i2l, 1) := by decide +kernel
theorem d_M_descend_95 : decode c_M_descend 95 = .ok (.ldiv, 1) := by decide +kernel
theorem d_M_descend_96 : decode c_M_descend 96 = .ok (.ladd, 1) := by decide +kernel
theorem d_M_descend_97 : decode c_M_descend 97 = .ok (.lastore, 1) := by decide +kernel
theorem d_M_descend_98 : decode c_M_descend 98 = .ok (.iinc 4 1, 3) := by decide +kernel
theorem d_M_descend_101 : decode c_M_descend 101 = .ok (.goto (-51), 3) := by decide +kernel
theorem d_M_descend_104 : decode c_M_descend 104 = .ok (.iinc 1 1, 3) := by decide +kernel
theorem d_M_descend_107 : decode c_M_descend 107 = .ok (.goto (-105), 3) := by decide +kernel
theorem d_M_descend_110 : decode c_M_descend 110 = .ok (.return_, 1) := by decide +kernel
theorem d_M_divide_0 : decode c_M_divide 0 = .ok (.aload_n 0, 1) := by decide +kernel
theorem d_M_divide_1 : decode c_M_divide 1 = .ok (.iload_n 1, 1) := by decide +kernel
theorem d_M_divide_2 : decode c_M_divide 2 = .ok (.invokevirtual 98, 3) := by decide +kernel
theorem d_M_divide_5 : decode c_M_divide 5 = .ok (.aload_n 0, 1) := by decide +kernel
theorem d_M_divide_6 : decode c_M_divide 6 = .ok (.invokevirtual 102, 3) := by decide +kernel
theorem d_M_divide_9 : decode c_M_divide 9 = .ok (.aload_n 0, 1) := by decide +kernel
theorem d_M_divide_10 : decode c_M_divide 10 = .ok (.ldc2_w 105, 3) := by decide +kernel
theorem d_M_divide_13 : decode c_M_divide 13 = .ok (.aload_n 0, 1) := by decide +kernel
theorem d_M_divide_14 : decode c_M_divide 14 = .ok (.getfield 78, 3) := by decide +kernel
theorem d_M_divide_17 : decode c_M_divide 17 = .ok (.lmul, 1) := by decide +kernel
theorem d_M_divide_18 : decode c_M_divide 18 = .ok (.putfield 107, 3) := by decide +kernel
theorem d_M_divide_21 : decode c_M_divide 21 = .ok (.aload_n 0, 1) := by decide +kernel
theorem d_M_divide_22 : decode c_M_divide 22 = .ok (.getfield 107, 3) := by decide +kernel
theorem d_M_divide_25 : decode c_M_divide 25 = .ok (.lstore_n 2, 1) := by decide +kernel
theorem d_M_divide_26 : decode c_M_divide 26 = .ok (.aload_n 0, 1) := by decide +kernel
theorem d_M_divide_27 : decode c_M_divide 27 = .ok (.getfield 89, 3) := by decide +kernel
theorem d_M_divide_30 : decode c_M_divide 30 = .ok (.ifCond .eq 67, 3) := by decide +kernel
theorem d_M_divide_33 : decode c_M_divide 33 = .ok (.aload_n 0, 1) := by decide +kernel
theorem d_M_divide_34 : decode c_M_divide 34 = .ok (.getfield 93, 3) := by decide +kernel
theorem d_M_divide_37 : decode c_M_divide 37 = .ok (.ifCond .ne 14, 3) := by decide +kernel
theorem d_M_divide_40 : decode c_M_divide 40 = .ok (.aload_n 0, 1) := by decide +kernel
theorem d_M_divide_41 : decode c_M_divide 41 = .ok (.getfield 107, 3) := by decide +kernel
theorem d_M_divide_44 : decode c_M_divide 44 = .ok (.ldc2_w 110, 3) := by decide +kernel
theorem d_M_divide_47 : decode c_M_divide 47 = .ok (.ldiv, 1) := by decide +kernel
theorem d_M_divide_48 : decode c_M_divide 48 = .ok (.goto 26, 3) := by decide +kernel
theorem d_M_divide_51 : decode c_M_divide 51 = .ok (.aload_n 0, 1) := by decide +kernel
theorem d_M_divide_52 : decode c_M_divide 52 = .ok (.getfield 93, 3) := by decide +kernel
theorem d_M_divide_55 : decode c_M_divide 55 = .ok (.iconst 3, 1) := by decide +kernel
theorem d_M_divide_56 : decode c_M_divide 56 = .ok (.if_icmp .ge 14, 3) := by decide +kernel
theorem d_M_divide_59 : decode c_M_divide 59 = .ok (.aload_n 0, 1) := by decide +kernel
theorem d_M_divide_60 : decode c_M_divide 60 = .ok (.getfield 107, 3) := by decide +kernel
theorem d_M_divide_63 : decode c_M_divide 63 = .ok (.ldc2_w 96, 3) := by decide +kernel
theorem d_M_divide_66 : decode c_M_divide 66 = .ok (.ldiv, 1) := by decide +kernel
theorem d_M_divide_67 : decode c_M_divide 67 = .ok (.goto 7, 3) := by decide +kernel
theorem d_M_divide_70 : decode c_M_divide 70 = .ok (.aload_n 0, 1) := by decide +kernel
theorem d_M_divide_71 : decode c_M_divide 71 = .ok (.getfield 107, 3) := by decide +kernel
theorem d_M_divide_74 : decode c_M_divide 74 = .ok (.lstore 4, 2) := by decide +kernel
theorem d_M_divide_76 : decode c_M_divide 76 = .ok (.aload_n 0, 1) := by decide +kernel
theorem d_M_divide_77 : decode c_M_divide 77 = .ok (.getfield 45, 3) := by decide +kernel
theorem d_M_divide_80 : decode c_M_divide 80 = .ok (.aload_n 0, 1) := by decide +kernel
theorem d_M_divide_81 : decode c_M_divide 81 = .ok (.getfield 16, 3) := by decide +kernel
theorem d_M_divide_84 : decode c_M_divide 84 = .ok (.iload_n 1, 1) := by decide +kernel
theorem d_M_divide_85 : decode c_M_divide 85 = .ok (.iaload, 1) := by decide +kernel
theorem d_M_divide_86 : decode c_M_divide 86 = .ok (.lload 4, 2) := by decide +kernel
theorem d_M_divide_88 : decode c_M_divide 88 = .ok (.lastore, 1) := by decide +kernel
theorem d_M_divide_89 : decode c_M_divide 89 = .ok (.aload_n 0, 1) := by decide +kernel
theorem d_M_divide_90 : decode c_M_divide 90 = .ok (.getfield 107, 3) := by decide +kernel
theorem d_M_divide_93 : decode c_M_divide 93 = .ok (.lload 4, 2) := by decide +kernel
theorem d_M_divide_95 : decode c_M_divide 95 = .ok (.lsub, 1) := by decide +kernel
theorem d_M_divide_96 : decode c_M_divide 96 = .ok (.lstore_n 2, 1) := by decide +kernel
theorem d_M_divide_97 : decode c_M_divide 97 = .ok (.aload_n 0, 1) := by decide +kernel
theorem d_M_divide_98 : decode c_M_divide 98 = .ok (.getfield 93, 3) := by decide +kernel
theorem d_M_divide_101 : decode c_M_divide 101 = .ok (.ifCond .ne 13, 3) := by decide +kernel
theorem d_M_divide_104 : decode c_M_divide 104 = .ok (.aload_n 0, 1) := by decide +kernel
theorem d_M_divide_105 : decode c_M_divide 105 = .ok (.getfield 41, 3) := by decide +kernel
theorem d_M_divide_108 : decode c_M_divide 108 = .ok (.iload_n 1, 1) := by decide +kernel
theorem d_M_divide_109 : decode c_M_divide 109 = .ok (.lload_n 2, 1) := by decide +kernel
theorem d_M_divide_110 : decode c_M_divide 110 = .ok (.lastore, 1) := by decide +kernel
theorem d_M_divide_111 : decode c_M_divide 111 = .ok (.goto 34, 3) := by decide +kernel
theorem d_M_divide_114 : decode c_M_divide 114 = .ok (.aload_n 0, 1) := by decide +kernel
theorem d_M_divide_115 : decode c_M_divide 115 = .ok (.getfield 93, 3) := by decide +kernel
theorem d_M_divide_118 : decode c_M_divide 118 = .ok (.iconst 4, 1) := by decide +kernel
theorem d_M_divide_119 : decode c_M_divide 119 = .ok (.if_icmp .ge 26, 3) := by decide +kernel
theorem d_M_divide_122 : decode c_M_divide 122 = .ok (.aload_n 0, 1) := by decide +kernel
theorem d_M_divide_123 : decode c_M_divide 123 = .ok (.getfield 41, 3) := by decide +kernel
theorem d_M_divide_126 : decode c_M_divide 126 = .ok (.bipush 20, 2) := by decide +kernel
theorem d_M_divide_128 : decode c_M_divide 128 = .ok (.aload_n 0, 1) := by decide +kernel
theorem d_M_divide_129 : decode c_M_divide 129 = .ok (.getfield 93, 3) := by decide +kernel
theorem d_M_divide_132 : decode c_M_divide 132 = .ok (.imul, 1) := by decide +kernel
theorem d_M_divide_133 : decode c_M_divide 133 = .ok (.iload_n 1, 1) := by decide +kernel
theorem d_M_divide_134 : decode c_M_divide 134 = .ok (.iadd, 1) := by decide +kernel
theorem d_M_divide_135 : decode c_M_divide 135 = .ok (.lload_n 2, 1) := by decide +kernel
theorem d_M_divide_136 : decode c_M_divide 136 = .ok (.lastore, 1) := by decide +kernel
theorem d_M_divide_137 : decode c_M_divide 137 = .ok (.aload_n 0, 1) := by decide +kernel
theorem d_M_divide_138 : decode c_M_divide 138 = .ok (.aload_n 0, 1) := by decide +kernel
theorem d_M_divide_139 : decode c_M_divide 139 = .ok (.getfield 93, 3) := by decide +kernel
theorem d_M_divide_142 : decode c_M_divide 142 = .ok (.invokevirtual 112, 3) := by decide +kernel
theorem d_M_divide_145 : decode c_M_divide 145 = .ok (.aload_n 0, 1) := by decide +kernel
theorem d_M_divide_146 : decode c_M_divide 146 = .ok (.invokevirtual 115, 3) := by decide +kernel
theorem d_M_divide_149 : decode c_M_divide 149 = .ok (.return_, 1) := by decide +kernel
theorem d_M_unsettled_0 : decode c_M_unsettled 0 = .ok (.aload_n 0, 1) := by decide +kernel
theorem d_M_unsettled_1 : decode c_M_unsettled 1 = .ok (.iload_n 1, 1) := by decide +kernel
theorem d_M_unsettled_2 : decode c_M_unsettled 2 = .ok (.invokevirtual 67, 3) := by decide +kernel
theorem d_M_unsettled_5 : decode c_M_unsettled 5 = .ok (.ifCond .eq 7, 3) := by decide +kernel
theorem d_M_unsettled_8 : decode c_M_unsettled 8 = .ok (.iconst 1, 1) := by decide +kernel
theorem d_M_unsettled_9 : decode c_M_unsettled 9 = .ok (.goto 17, 3) := by decide +kernel
theorem d_M_unsettled_12 : decode c_M_unsettled 12 = .ok (.aload_n 0, 1) := by decide +kernel
theorem d_M_unsettled_13 : decode c_M_unsettled 13 = .ok (.getfield 19, 3) := by decide +kernel
theorem d_M_unsettled_16 : decode c_M_unsettled 16 = .ok (.iload_n 1, 1) := by decide +kernel
theorem d_M_unsettled_17 : decode c_M_unsettled 17 = .ok (.iaload, 1) := by decide +kernel
theorem d_M_unsettled_18 : decode c_M_unsettled 18 = .ok (.ifCond .ge 7, 3) := by decide +kernel
theorem d_M_unsettled_21 : decode c_M_unsettled 21 = .ok (.iconst 2, 1) := by decide +kernel
theorem d_M_unsettled_22 : decode c_M_unsettled 22 = .ok (.goto 4, 3) := by decide +kernel
theorem d_M_unsettled_25 : decode c_M_unsettled 25 = .ok (.iconst 0, 1) := by decide +kernel
theorem d_M_unsettled_26 : decode c_M_unsettled 26 = .ok (.ireturn, 1) := by decide +kernel
theorem d_M_heirs_0 : decode c_M_heirs 0 = .ok (.aload_n 0, 1) := by decide +kernel
theorem d_M_heirs_1 : decode c_M_heirs 1 = .ok (.aload_n 0, 1) := by decide +kernel
theorem d_M_heirs_2 : decode c_M_heirs 2 = .ok (.iload_n 1, 1) := by decide +kernel
theorem d_M_heirs_3 : decode c_M_heirs 3 = .ok (.invokevirtual 118, 3) := by decide +kernel
theorem d_M_heirs_6 : decode c_M_heirs 6 = .ok (.putfield 60, 3) := by decide +kernel
theorem d_M_heirs_9 : decode c_M_heirs 9 = .ok (.aload_n 0, 1) := by decide +kernel
theorem d_M_heirs_10 : decode c_M_heirs 10 = .ok (.getfield 60, 3) := by decide +kernel
theorem d_M_heirs_13 : decode c_M_heirs 13 = .ok (.ifCond .le 5, 3) := by decide +kernel
theorem d_M_heirs_16 : decode c_M_heirs 16 = .ok (.iconst 0, 1) := by decide +kernel
theorem d_M_heirs_17 : decode c_M_heirs 17 = .ok (.ireturn, 1) := by decide +kernel
theorem d_M_heirs_18 : decode c_M_heirs 18 = .ok (.aload_n 0, 1) := by decide +kernel
theorem d_M_heirs_19 : decode c_M_heirs 19 = .ok (.iload_n 1, 1) := by decide +kernel
theorem d_M_heirs_20 : decode c_M_heirs 20 = .ok (.invokevirtual 122, 3) := by decide +kernel
theorem d_M_heirs_23 : decode c_M_heirs 23 = .ok (.iconst 0, 1) := by decide +kernel
theorem d_M_heirs_24 : decode c_M_heirs 24 = .ok (.istore_n 2, 1) := by decide +kernel
theorem d_M_heirs_25 : decode c_M_heirs 25 = .ok (.iconst 0, 1) := by decide +kernel
theorem d_M_heirs_26 : decode c_M_heirs 26 = .ok (.istore_n 3, 1) := by decide +kernel
theorem d_M_heirs_27 : decode c_M_heirs 27 = .ok (.iload_n 3, 1) := by decide +kernel
theorem d_M_heirs_28 : decode c_M_heirs 28 = .ok (.aload_n 0, 1) := by decide +kernel
theorem d_M_heirs_29 : decode c_M_heirs 29 = .ok (.getfield 64, 3) := by decide +kernel
theorem d_M_heirs_32 : decode c_M_heirs 32 = .ok (.if_icmp .ge 28, 3) := by decide +kernel
theorem d_M_heirs_35 : decode c_M_heirs 35 = .ok (.aload_n 0, 1) := by decide +kernel
theorem d_M_heirs_36 : decode c_M_heirs 36 = .ok (.getfield 45, 3) := by decide +kernel
theorem d_M_heirs_39 : decode c_M_heirs 39 = .ok (.iload_n 3, 1) := by decide +kernel
theorem d_M_heirs_40 : decode c_M_heirs 40 = .ok (.laload, 1) := by decide +kernel
theorem d_M_heirs_41 : decode c_M_heirs 41 = .ok (.lconst 0, 1) := by decide +kernel
theorem d_M_heirs_42 : decode c_M_heirs 42 = .ok (.lcmp, 1) := by decide +kernel
theorem d_M_heirs_43 : decode c_M_heirs 43 = .ok (.ifCond .le 9, 3) := by decide +kernel
theorem d_M_heirs_46 : decode c_M_heirs 46 = .ok (.iload_n 2, 1) := by decide +kernel
theorem d_M_heirs_47 : decode c_M_heirs 47 = .ok (.iconst 1, 1) := by decide +kernel
theorem d_M_heirs_48 : decode c_M_heirs 48 = .ok (.iadd, 1) := by decide +kernel
theorem d_M_heirs_49 : decode c_M_heirs 49 = .ok (.goto 4, 3) := by decide +kernel
theorem d_M_heirs_52 : decode c_M_heirs 52 = .ok (.iload_n 2, 1) := by decide +kernel
theorem d_M_heirs_53 : decode c_M_heirs 53 = .ok (.istore_n 2, 1) := by decide +kernel
theorem d_M_heirs_54 : decode c_M_heirs 54 = .ok (.iinc 3 1, 3) := by decide +kernel
theorem d_M_heirs_57 : decode c_M_heirs 57 = .ok (.goto (-30), 3) := by decide +kernel
theorem d_M_heirs_60 : decode c_M_heirs 60 = .ok (.iload_n 2, 1) := by decide +kernel
theorem d_M_heirs_61 : decode c_M_heirs 61 = .ok (.ireturn, 1) := by decide +kernel
theorem d_M_heir_0 : decode c_M_heir 0 = .ok (.aload_n 0, 1) := by decide +kernel
theorem d_M_heir_1 : decode c_M_heir 1 = .ok (.aload_n 0, 1) := by decide +kernel
theorem d_M_heir_2 : decode c_M_heir 2 = .ok (.iload_n 1, 1) := by decide +kernel
theorem d_M_heir_3 : decode c_M_heir 3 = .ok (.invokevirtual 118, 3) := by decide +kernel
theorem d_M_heir_6 : decode c_M_heir 6 = .ok (.putfield 60, 3) := by decide +kernel
theorem d_M_heir_9 : decode c_M_heir 9 = .ok (.aload_n 0, 1) := by decide +kernel
theorem d_M_heir_10 : decode c_M_heir 10 = .ok (.getfield 60, 3) := by decide +kernel
theorem d_M_heir_13 : decode c_M_heir 13 = .ok (.ifCond .le 5, 3) := by decide +kernel
theorem d_M_heir_16 : decode c_M_heir 16 = .ok (.iconst 0, 1) := by decide +kernel
theorem d_M_heir_17 : decode c_M_heir 17 = .ok (.ireturn, 1) := by decide +kernel
theorem d_M_heir_18 : decode c_M_heir 18 = .ok (.aload_n 0, 1) := by decide +kernel
theorem d_M_heir_19 : decode c_M_heir 19 = .ok (.iload_n 1, 1) := by decide +kernel
theorem d_M_heir_20 : decode c_M_heir 20 = .ok (.invokevirtual 122, 3) := by decide +kernel
theorem d_M_heir_23 : decode c_M_heir 23 = .ok (.iload_n 2, 1) := by decide +kernel
theorem d_M_heir_24 : decode c_M_heir 24 = .ok (.istore_n 3, 1) := by decide +kernel
theorem d_M_heir_25 : decode c_M_heir 25 = .ok (.iconst 0, 1) := by decide +kernel
theorem d_M_heir_26 : decode c_M_heir 26 = .ok (.istore 4, 2) := by decide +kernel
theorem d_M_heir_28 : decode c_M_heir 28 = .ok (.iload 4, 2) := by decide +kernel
theorem d_M_heir_30 : decode c_M_heir 30 = .ok (.aload_n 0, 1) := by decide +kernel
theorem d_M_heir_31 : decode c_M_heir 31 = .ok (.getfield 64, 3) := by decide +kernel
theorem d_M_heir_34 : decode c_M_heir 34 = .ok (.if_icmp .ge 31, 3) := by decide +kernel
theorem d_M_heir_37 : decode c_M_heir 37 = .ok (.aload_n 0, 1) := by decide +kernel
theorem d_M_heir_38 : decode c_M_heir 38 = .ok (.getfield 45, 3) := by decide +kernel
theorem d_M_heir_41 : decode c_M_heir 41 = .ok (.iload 4, 2) := by decide +kernel
theorem d_M_heir_43 : decode c_M_heir 43 = .ok (.laload, 1) := by decide +kernel
theorem d_M_heir_44 : decode c_M_heir 44 = .ok (.lconst 0, 1) := by decide +kernel
theorem d_M_heir_45 : decode c_M_heir 45 = .ok (.lcmp, 1) := by decide +kernel
theorem d_M_heir_46 : decode c_M_heir 46 = .ok (.ifCond .le 13, 3) := by decide +kernel
theorem d_M_heir_49 : decode c_M_heir 49 = .ok (.iload_n 3, 1) := by decide +kernel
theorem d_M_heir_50 : decode c_M_heir 50 = .ok (.ifCond .ne 6, 3) := by decide +kernel
theorem d_M_heir_53 : decode c_M_heir 53 = .ok (.iload 4, 2) := by decide +kernel
theorem d_M_heir_55 : decode c_M_heir 55 = .ok (.ireturn, 1) := by decide +kernel
theorem d_M_heir_56 : decode c_M_heir 56 = .ok (.iinc 3 (-1), 3) := by decide +kernel
theorem d_M_heir_59 : decode c_M_heir 59 = .ok (.iinc 4 1, 3) := by decide +kernel
theorem d_M_heir_62 : decode c_M_heir 62 = .ok (.goto (-34), 3) := by decide +kernel
theorem d_M_heir_65 : decode c_M_heir 65 = .ok (.iconst (-1), 1) := by decide +kernel
theorem d_M_heir_66 : decode c_M_heir 66 = .ok (.ireturn, 1) := by decide +kernel
theorem d_M_divisor_0 : decode c_M_divisor 0 = .ok (.lload_n 0, 1) := by decide +kernel
theorem d_M_divisor_1 : decode c_M_divisor 1 = .ok (.lstore 4, 2) := by decide +kernel
theorem d_M_divisor_3 : decode c_M_divisor 3 = .ok (.lload_n 2, 1) := by decide +kernel
theorem d_M_divisor_4 : decode c_M_divisor 4 = .ok (.lstore 6, 2) := by decide +kernel
theorem d_M_divisor_6 : decode c_M_divisor 6 = .ok (.lload 6, 2) := by decide +kernel
theorem d_M_divisor_8 : decode c_M_divisor 8 = .ok (.lconst 0, 1) := by decide +kernel
theorem d_M_divisor_9 : decode c_M_divisor 9 = .ok (.lcmp, 1) := by decide +kernel
theorem d_M_divisor_10 : decode c_M_divisor 10 = .ok (.ifCond .eq 21, 3) := by decide +kernel
theorem d_M_divisor_13 : decode c_M_divisor 13 = .ok (.lload 4, 2) := by decide +kernel
theorem d_M_divisor_15 : decode c_M_divisor 15 = .ok (.lload 6, 2) := by decide +kernel
theorem d_M_divisor_17 : decode c_M_divisor 17 = .ok (.lrem, 1) := by decide +kernel
theorem d_M_divisor_18 : decode c_M_divisor 18 = .ok (.lstore 8, 2) := by decide +kernel
theorem d_M_divisor_20 : decode c_M_divisor 20 = .ok (.lload 6, 2) := by decide +kernel
theorem d_M_divisor_22 : decode c_M_divisor 22 = .ok (.lstore 4, 2) := by decide +kernel
theorem d_M_divisor_24 : decode c_M_divisor 24 = .ok (.lload 8, 2) := by decide +kernel
theorem d_M_divisor_26 : decode c_M_divisor 26 = .ok (.lstore 6, 2) := by decide +kernel
theorem d_M_divisor_28 : decode c_M_divisor 28 = .ok (.goto (-22), 3) := by decide +kernel
theorem d_M_divisor_31 : decode c_M_divisor 31 = .ok (.lload 4, 2) := by decide +kernel
theorem d_M_divisor_33 : decode c_M_divisor 33 = .ok (.lreturn, 1) := by decide +kernel
theorem d_M_share_0 : decode c_M_share 0 = .ok (.aload_n 0, 1) := by decide +kernel
theorem d_M_share_1 : decode c_M_share 1 = .ok (.aload_n 0, 1) := by decide +kernel
theorem d_M_share_2 : decode c_M_share 2 = .ok (.iload_n 1, 1) := by decide +kernel
theorem d_M_share_3 : decode c_M_share 3 = .ok (.invokevirtual 67, 3) := by decide +kernel
theorem d_M_share_6 : decode c_M_share 6 = .ok (.ifCond .ne 11, 3) := by decide +kernel
theorem d_M_share_9 : decode c_M_share 9 = .ok (.aload_n 0, 1) := by decide +kernel
theorem d_M_share_10 : decode c_M_share 10 = .ok (.iload_n 2, 1) := by decide +kernel
theorem d_M_share_11 : decode c_M_share 11 = .ok (.invokevirtual 67, 3) := by decide +kernel
theorem d_M_share_14 : decode c_M_share 14 = .ok (.ifCond .eq 7, 3) := by decide +kernel
theorem d_M_share_17 : decode c_M_share 17 = .ok (.iconst 1, 1) := by decide +kernel
theorem d_M_share_18 : decode c_M_share 18 = .ok (.goto 17, 3) := by decide +kernel
theorem d_M_share_21 : decode c_M_share 21 = .ok (.aload_n 0, 1) := by decide +kernel
theorem d_M_share_22 : decode c_M_share 22 = .ok (.getfield 19, 3) := by decide +kernel
theorem d_M_share_25 : decode c_M_share 25 = .ok (.iload_n 1, 1) := by decide +kernel
theorem d_M_share_26 : decode c_M_share 26 = .ok (.iaload, 1) := by decide +kernel
theorem d_M_share_27 : decode c_M_share 27 = .ok (.ifCond .ge 7, 3) := by decide +kernel
theorem d_M_share_30 : decode c_M_share 30 = .ok (.iconst 2, 1) := by decide +kernel
theorem d_M_share_31 : decode c_M_share 31 = .ok (.goto 4, 3) := by decide +kernel
theorem d_M_share_34 : decode c_M_share 34 = .ok (.iconst 0, 1) := by decide +kernel
theorem d_M_share_35 : decode c_M_share 35 = .ok (.putfield 60, 3) := by decide +kernel
theorem d_M_share_38 : decode c_M_share 38 = .ok (.aload_n 0, 1) := by decide +kernel
theorem d_M_share_39 : decode c_M_share 39 = .ok (.getfield 60, 3) := by decide +kernel
theorem d_M_share_42 : decode c_M_share 42 = .ok (.ifCond .le 5, 3) := by decide +kernel
theorem d_M_share_45 : decode c_M_share 45 = .ok (.lconst 0, 1) := by decide +kernel
theorem d_M_share_46 : decode c_M_share 46 = .ok (.lreturn, 1) := by decide +kernel
theorem d_M_share_47 : decode c_M_share 47 = .ok (.aload_n 0, 1) := by decide +kernel
theorem d_M_share_48 : decode c_M_share 48 = .ok (.iload_n 1, 1) := by decide +kernel
theorem d_M_share_49 : decode c_M_share 49 = .ok (.invokevirtual 122, 3) := by decide +kernel
theorem d_M_share_52 : decode c_M_share 52 = .ok (.aload_n 0, 1) := by decide +kernel
theorem d_M_share_53 : decode c_M_share 53 = .ok (.getfield 45, 3) := by decide +kernel
theorem d_M_share_56 : decode c_M_share 56 = .ok (.iload_n 2, 1) := by decide +kernel
theorem d_M_share_57 : decode c_M_share 57 = .ok (.laload, 1) := by decide +kernel
theorem d_M_share_58 : decode c_M_share 58 = .ok (.lconst 0, 1) := by decide +kernel
theorem d_M_share_59 : decode c_M_share 59 = .ok (.lcmp, 1) := by decide +kernel
theorem d_M_share_60 : decode c_M_share 60 = .ok (.ifCond .ne 5, 3) := by decide +kernel
theorem d_M_share_63 : decode c_M_share 63 = .ok (.lconst 0, 1) := by decide +kernel
theorem d_M_share_64 : decode c_M_share 64 = .ok (.lreturn, 1) := by decide +kernel
theorem d_M_share_65 : decode c_M_share 65 = .ok (.aload_n 0, 1) := by decide +kernel
theorem d_M_share_66 : decode c_M_share 66 = .ok (.getfield 45, 3) := by decide +kernel
theorem d_M_share_69 : decode c_M_share 69 = .ok (.iload_n 2, 1) := by decide +kernel
theorem d_M_share_70 : decode c_M_share 70 = .ok (.laload, 1) := by decide +kernel
theorem d_M_share_71 : decode c_M_share 71 = .ok (.aload_n 0, 1) := by decide +kernel
theorem d_M_share_72 : decode c_M_share 72 = .ok (.getfield 107, 3) := by decide +kernel
theorem d_M_share_75 : decode c_M_share 75 = .ok (.invokestatic 125, 3) := by decide +kernel
theorem d_M_share_78 : decode c_M_share 78 = .ok (.lstore_n 3, 1) := by decide +kernel
theorem d_M_share_79 : decode c_M_share 79 = .ok (.aload_n 0, 1) := by decide +kernel
theorem d_M_share_80 : decode c_M_share 80 = .ok (.getfield 45, 3) := by decide +kernel
theorem d_M_share_83 : decode c_M_share 83 = .ok (.iload_n 2, 1) := by decide +kernel
theorem d_M_share_84 : decode c_M_share 84 = .ok (.laload, 1) := by decide +kernel
theorem d_M_share_85 : decode c_M_share 85 = .ok (.lload_n 3, 1) := by decide +kernel
theorem d_M_share_86 : decode c_M_share 86 = .ok (.ldiv, 1) := by decide +kernel
theorem d_M_share_87 : decode c_M_share 87 = .ok (.bipush 32, 2) := by decide +kernel
theorem d_M_share_89 : decode c_M_share 89 = .ok (.lshl, 1) := by decide +kernel
theorem d_M_share_90 : decode c_M_share 90 = .ok (.aload_n 0, 1) := by decide +kernel
theorem d_M_share_91 : decode c_M_share 91 = .ok (.getfield 107, 3) := by decide +kernel
theorem d_M_share_94 : decode c_M_share 94 = .ok (.lload_n 3, 1) := by decide +kernel
theorem d_M_share_95 : decode c_M_share 95 = .ok (.ldiv, 1) := by decide +kernel
theorem d_M_share_96 : decode c_M_share 96 = .ok (.lor, 1) := by decide +kernel
theorem d_M_share_97 : decode c_M_share 97 = .ok (.lreturn, 1) := by decide +kernel
theorem d_M_order_0 : decode c_M_order 0 = .ok (.aload_n 0, 1) := by decide +kernel
theorem d_M_order_1 : decode c_M_order 1 = .ok (.aload_n 0, 1) := by decide +kernel
theorem d_M_order_2 : decode c_M_order 2 = .ok (.iload_n 1, 1) := by decide +kernel
theorem d_M_order_3 : decode c_M_order 3 = .ok (.invokevirtual 118, 3) := by decide +kernel
theorem d_M_order_6 : decode c_M_order 6 = .ok (.putfield 60, 3) := by decide +kernel
theorem d_M_order_9 : decode c_M_order 9 = .ok (.aload_n 0, 1) := by decide +kernel
theorem d_M_order_10 : decode c_M_order 10 = .ok (.getfield 60, 3) := by decide +kernel
theorem d_M_order_13 : decode c_M_order 13 = .ok (.ifCond .le 5, 3) := by decide +kernel
theorem d_M_order_16 : decode c_M_order 16 = .ok (.iconst 0, 1) := by decide +kernel
theorem d_M_order_17 : decode c_M_order 17 = .ok (.ireturn, 1) := by decide +kernel
theorem d_M_order_18 : decode c_M_order 18 = .ok (.aload_n 0, 1) := by decide +kernel
theorem d_M_order_19 : decode c_M_order 19 = .ok (.iload_n 1, 1) := by decide +kernel
theorem d_M_order_20 : decode c_M_order 20 = .ok (.invokevirtual 98, 3) := by decide +kernel
theorem d_M_order_23 : decode c_M_order 23 = .ok (.aload_n 0, 1) := by decide +kernel
theorem d_M_order_24 : decode c_M_order 24 = .ok (.getfield 93, 3) := by decide +kernel
theorem d_M_order_27 : decode c_M_order 27 = .ok (.ireturn, 1) := by decide +kernel
theorem d_M_stem_0 : decode c_M_stem 0 = .ok (.aload_n 0, 1) := by decide +kernel
theorem d_M_stem_1 : decode c_M_stem 1 = .ok (.aload_n 0, 1) := by decide +kernel
theorem d_M_stem_2 : decode c_M_stem 2 = .ok (.iload_n 1, 1) := by decide +kernel
theorem d_M_stem_3 : decode c_M_stem 3 = .ok (.invokevirtual 67, 3) := by decide +kernel
theorem d_M_stem_6 : decode c_M_stem 6 = .ok (.ifCond .ne 11, 3) := by decide +kernel
theorem d_M_stem_9 : decode c_M_stem 9 = .ok (.aload_n 0, 1) := by decide +kernel
theorem d_M_stem_10 : decode c_M_stem 10 = .ok (.iload_n 2, 1) := by decide +kernel
theorem d_M_stem_11 : decode c_M_stem 11 = .ok (.invokevirtual 67, 3) := by decide +kernel
theorem d_M_stem_14 : decode c_M_stem 14 = .ok (.ifCond .eq 7, 3) := by decide +kernel
theorem d_M_stem_17 : decode c_M_stem 17 = .ok (.iconst 1, 1) := by decide +kernel
theorem d_M_stem_18 : decode c_M_stem 18 = .ok (.goto 17, 3) := by decide +kernel
theorem d_M_stem_21 : decode c_M_stem 21 = .ok (.aload_n 0, 1) := by decide +kernel
theorem d_M_stem_22 : decode c_M_stem 22 = .ok (.getfield 19, 3) := by decide +kernel
theorem d_M_stem_25 : decode c_M_stem 25 = .ok (.iload_n 1, 1) := by decide +kernel
theorem d_M_stem_26 : decode c_M_stem 26 = .ok (.iaload, 1) := by decide +kernel
theorem d_M_stem_27 : decode c_M_stem 27 = .ok (.ifCond .ge 7, 3) := by decide +kernel
theorem d_M_stem_30 : decode c_M_stem 30 = .ok (.iconst 2, 1) := by decide +kernel
theorem d_M_stem_31 : decode c_M_stem 31 = .ok (.goto 4, 3) := by decide +kernel
theorem d_M_stem_34 : decode c_M_stem 34 = .ok (.iconst 0, 1) := by decide +kernel
theorem d_M_stem_35 : decode c_M_stem 35 = .ok (.putfield 60, 3) := by decide +kernel
theorem d_M_stem_38 : decode c_M_stem 38 = .ok (.aload_n 0, 1) := by decide +kernel
theorem d_M_stem_39 : decode c_M_stem 39 = .ok (.getfield 60, 3) := by decide +kernel
theorem d_M_stem_42 : decode c_M_stem 42 = .ok (.ifCond .le 5, 3) := by decide +kernel
theorem d_M_stem_45 : decode c_M_stem 45 = .ok (.iconst 0, 1) := by decide +kernel
theorem d_M_stem_46 : decode c_M_stem 46 = .ok (.ireturn, 1) := by decide +kernel
theorem d_M_stem_47 : decode c_M_stem 47 = .ok (.aload_n 0, 1) := by decide +kernel
theorem d_M_stem_48 : decode c_M_stem 48 = .ok (.iload_n 1, 1) := by decide +kernel
theorem d_M_stem_49 : decode c_M_stem 49 = .ok (.invokevirtual 98, 3) := by decide +kernel
theorem d_M_stem_52 : decode c_M_stem 52 = .ok (.aload_n 0, 1) := by decide +kernel
theorem d_M_stem_53 : decode c_M_stem 53 = .ok (.getfield 93, 3) := by decide +kernel
theorem d_M_stem_56 : decode c_M_stem 56 = .ok (.iconst 3, 1) := by decide +kernel
theorem d_M_stem_57 : decode c_M_stem 57 = .ok (.if_icmp .le 5, 3) := by decide +kernel
theorem d_M_stem_60 : decode c_M_stem 60 = .ok (.iconst (-1), 1) := by decide +kernel
theorem d_M_stem_61 : decode c_M_stem 61 = .ok (.ireturn, 1) := by decide +kernel
theorem d_M_stem_62 : decode c_M_stem 62 = .ok (.aload_n 0, 1) := by decide +kernel
theorem d_M_stem_63 : decode c_M_stem 63 = .ok (.getfield 48, 3) := by decide +kernel
theorem d_M_stem_66 : decode c_M_stem 66 = .ok (.astore_n 3, 1) := by decide +kernel
theorem d_M_stem_67 : decode c_M_stem 67 = .ok (.iconst 0, 1) := by decide +kernel
theorem d_M_stem_68 : decode c_M_stem 68 = .ok (.istore 4, 2) := by decide +kernel
theorem d_M_stem_70 : decode c_M_stem 70 = .ok (.iload 4, 2) := by decide +kernel
theorem d_M_stem_72 : decode c_M_stem 72 = .ok (.bipush 20, 2) := by decide +kernel
theorem d_M_stem_74 : decode c_M_stem 74 = .ok (.if_icmp .ge 54, 3) := by decide +kernel
theorem d_M_stem_77 : decode c_M_stem 77 = .ok (.aload_n 3, 1) := by decide +kernel
theorem d_M_stem_78 : decode c_M_stem 78 = .ok (.iload 4, 2) := by decide +kernel
theorem d_M_stem_80 : decode c_M_stem 80 = .ok (.iload 4, 2) := by decide +kernel
theorem d_M_stem_82 : decode c_M_stem 82 = .ok (.aload_n 0, 1) := by decide +kernel
theorem d_M_stem_83 : decode c_M_stem 83 = .ok (.getfield 64, 3) := by decide +kernel
theorem d_M_stem_86 : decode c_M_stem 86 = .ok (.if_icmp .ge 34, 3) := by decide +kernel
theorem d_M_stem_89 : decode c_M_stem 89 = .ok (.aload_n 0, 1) := by decide +kernel
theorem d_M_stem_90 : decode c_M_stem 90 = .ok (.getfield 93, 3) := by decide +kernel
theorem d_M_stem_93 : decode c_M_stem 93 = .ok (.ifCond .ne 27, 3) := by decide +kernel
theorem d_M_stem_96 : decode c_M_stem 96 = .ok (.aload_n 0, 1) := by decide +kernel
theorem d_M_stem_97 : decode c_M_stem 97 = .ok (.iload 4, 2) := by decide +kernel
theorem d_M_stem_99 : decode c_M_stem 99 = .ok (.iload_n 1, 1) := by decide +kernel
theorem d_M_stem_100 : decode c_M_stem 100 = .ok (.invokevirtual 82, 3) := by decide +kernel
theorem d_M_stem_103 : decode c_M_stem 103 = .ok (.ifCond .eq 17, 3) := by decide +kernel
theorem d_M_stem_106 : decode c_M_stem 106 = .ok (.aload_n 0, 1) := by decide +kernel
theorem d_M_stem_107 : decode c_M_stem 107 = .ok (.getfield 38, 3) := by decide +kernel
theorem d_M_stem_110 : decode c_M_stem 110 = .ok (.iload 4, 2) := by decide +kernel
theorem d_M_stem_112 : decode c_M_stem 112 = .ok (.baload, 1) := by decide +kernel
theorem d_M_stem_113 : decode c_M_stem 113 = .ok (.ifCond .eq 7, 3) := by decide +kernel
theorem d_M_stem_116 : decode c_M_stem 116 = .ok (.iconst 1, 1) := by decide +kernel
theorem d_M_stem_117 : decode c_M_stem 117 = .ok (.goto 4, 3) := by decide +kernel
theorem d_M_stem_120 : decode c_M_stem 120 = .ok (.iconst 0, 1) := by decide +kernel
theorem d_M_stem_121 : decode c_M_stem 121 = .ok (.bastore, 1) := by decide +kernel
theorem d_M_stem_122 : decode c_M_stem 122 = .ok (.iinc 4 1, 3) := by decide +kernel
theorem d_M_stem_125 : decode c_M_stem 125 = .ok (.goto (-55), 3) := by decide +kernel
theorem d_M_stem_128 : decode c_M_stem 128 = .ok (.aload_n 0, 1) := by decide +kernel
theorem d_M_stem_129 : decode c_M_stem 129 = .ok (.getfield 93, 3) := by decide +kernel
theorem d_M_stem_132 : decode c_M_stem 132 = .ok (.ifCond .le 71, 3) := by decide +kernel
theorem d_M_stem_135 : decode c_M_stem 135 = .ok (.aload_n 0, 1) := by decide +kernel
theorem d_M_stem_136 : decode c_M_stem 136 = .ok (.invokevirtual 102, 3) := by decide +kernel
theorem d_M_stem_139 : decode c_M_stem 139 = .ok (.aload_n 0, 1) := by decide +kernel
theorem d_M_stem_140 : decode c_M_stem 140 = .ok (.getfield 41, 3) := by decide +kernel
theorem d_M_stem_143 : decode c_M_stem 143 = .ok (.bipush 20, 2) := by decide +kernel
theorem d_M_stem_145 : decode c_M_stem 145 = .ok (.aload_n 0, 1) := by decide +kernel
theorem d_M_stem_146 : decode c_M_stem 146 = .ok (.getfield 93, 3) := by decide +kernel
theorem d_M_stem_149 : decode c_M_stem 149 = .ok (.imul, 1) := by decide +kernel
theorem d_M_stem_150 : decode c_M_stem 150 = .ok (.iload_n 1, 1) := by decide +kernel
theorem d_M_stem_151 : decode c_M_stem 151 = .ok (.iadd, 1) := by decide +kernel
theorem d_M_stem_152 : decode c_M_stem 152 = .ok (.ldc2_w 129, 3) := by decide +kernel
theorem d_M_stem_155 : decode c_M_stem 155 = .ok (.lastore, 1) := by decide +kernel
theorem d_M_stem_156 : decode c_M_stem 156 = .ok (.aload_n 0, 1) := by decide +kernel
theorem d_M_stem_157 : decode c_M_stem 157 = .ok (.aload_n 0, 1) := by decide +kernel
theorem d_M_stem_158 : decode c_M_stem 158 = .ok (.getfield 93, 3) := by decide +kernel
theorem d_M_stem_161 : decode c_M_stem 161 = .ok (.invokevirtual 112, 3) := by decide +kernel
theorem d_M_stem_164 : decode c_M_stem 164 = .ok (.iconst 0, 1) := by decide +kernel
theorem d_M_stem_165 : decode c_M_stem 165 = .ok (.istore 4, 2) := by decide +kernel
theorem d_M_stem_167 : decode c_M_stem 167 = .ok (.iload 4, 2) := by decide +kernel
theorem d_M_stem_169 : decode c_M_stem 169 = .ok (.aload_n 0, 1) := by decide +kernel
theorem d_M_stem_170 : decode c_M_stem 170 = .ok (.getfield 64, 3) := by decide +kernel
theorem d_M_stem_173 : decode c_M_stem 173 = .ok (.if_icmp .ge 30, 3) := by decide +kernel
theorem d_M_stem_176 : decode c_M_stem 176 = .ok (.aload_n 3, 1) := by decide +kernel
theorem d_M_stem_177 : decode c_M_stem 177 = .ok (.iload 4, 2) := by decide +kernel
theorem d_M_stem_179 : decode c_M_stem 179 = .ok (.aload_n 0, 1) := by decide +kernel
theorem d_M_stem_180 : decode c_M_stem 180 = .ok (.getfield 41, 3) := by decide +kernel
theorem d_M_stem_183 : decode c_M_stem 183 = .ok (.iload 4, 2) := by decide +kernel
theorem d_M_stem_185 : decode c_M_stem 185 = .ok (.laload, 1) := by decide +kernel
theorem d_M_stem_186 : decode c_M_stem 186 = .ok (.lconst 0, 1) := by decide +kernel
theorem d_M_stem_187 : decode c_M_stem 187 = .ok (.lcmp, 1) := by decide +kernel
theorem d_M_stem_188 : decode c_M_stem 188 = .ok (.ifCond .le 7, 3) := by decide +kernel
theorem d_M_stem_191 : decode c_M_stem 191 = .ok (.iconst 1, 1) := by decide +kernel
theorem d_M_stem_192 : decode c_M_stem 192 = .ok (.goto 4, 3) := by decide +kernel
theorem d_M_stem_195 : decode c_M_stem 195 = .ok (.iconst 0, 1) := by decide +kernel
theorem d_M_stem_196 : decode c_M_stem 196 = .ok (.bastore, 1) := by decide +kernel
theorem d_M_stem_197 : decode c_M_stem 197 = .ok (.iinc 4 1, 3) := by decide +kernel
theorem d_M_stem_200 : decode c_M_stem 200 = .ok (.goto (-33), 3) := by decide +kernel
theorem d_M_stem_203 : decode c_M_stem 203 = .ok (.iconst 0, 1) := by decide +kernel
theorem d_M_stem_204 : decode c_M_stem 204 = .ok (.istore 4, 2) := by decide +kernel
theorem d_M_stem_206 : decode c_M_stem 206 = .ok (.iload 4, 2) := by decide +kernel
theorem d_M_stem_208 : decode c_M_stem 208 = .ok (.aload_n 0, 1) := by decide +kernel
theorem d_M_stem_209 : decode c_M_stem 209 = .ok (.getfield 64, 3) := by decide +kernel
theorem d_M_stem_212 : decode c_M_stem 212 = .ok (.if_icmp .ge 49, 3) := by decide +kernel
theorem d_M_stem_215 : decode c_M_stem 215 = .ok (.aload_n 3, 1) := by decide +kernel
theorem d_M_stem_216 : decode c_M_stem 216 = .ok (.iload 4, 2) := by decide +kernel
theorem d_M_stem_218 : decode c_M_stem 218 = .ok (.baload, 1) := by decide +kernel
theorem d_M_stem_219 : decode c_M_stem 219 = .ok (.ifCond .eq 36, 3) := by decide +kernel
theorem d_M_stem_222 : decode c_M_stem 222 = .ok (.aload_n 0, 1) := by decide +kernel
theorem d_M_stem_223 : decode c_M_stem 223 = .ok (.invokevirtual 102, 3) := by decide +kernel
theorem d_M_stem_226 : decode c_M_stem 226 = .ok (.aload_n 0, 1) := by decide +kernel
theorem d_M_stem_227 : decode c_M_stem 227 = .ok (.getfield 41, 3) := by decide +kernel
theorem d_M_stem_230 : decode c_M_stem 230 = .ok (.iload 4, 2) := by decide +kernel
theorem d_M_stem_232 : decode c_M_stem 232 = .ok (.aload_n 0, 1) := by decide +kernel
theorem d_M_stem_233 : decode c_M_stem 233 = .ok (.getfield 78, 3) := by decide +kernel
theorem d_M_stem_236 : decode c_M_stem 236 = .ok (.lastore, 1) := by decide +kernel
theorem d_M_stem_237 : decode c_M_stem 237 = .ok (.aload_n 0, 1) := by decide +kernel
theorem d_M_stem_238 : decode c_M_stem 238 = .ok (.invokevirtual 115, 3) := by decide +kernel
theorem d_M_stem_241 : decode c_M_stem 241 = .ok (.aload_n 0, 1) := by decide +kernel
theorem d_M_stem_242 : decode c_M_stem 242 = .ok (.getfield 45, 3) := by decide +kernel
theorem d_M_stem_245 : decode c_M_stem 245 = .ok (.iload_n 2, 1) := by decide +kernel
theorem d_M_stem_246 : decode c_M_stem 246 = .ok (.laload, 1) := by decide +kernel
theorem d_M_stem_247 : decode c_M_stem 247 = .ok (.lconst 0, 1) := by decide +kernel
theorem d_M_stem_248 : decode c_M_stem 248 = .ok (.lcmp, 1) := by decide +kernel
theorem d_M_stem_249 : decode c_M_stem 249 = .ok (.ifCond .le 6, 3) := by decide +kernel
theorem d_M_stem_252 : decode c_M_stem 252 = .ok (.iload 4, 2) := by decide +kernel
theorem d_M_stem_254 : decode c_M_stem 254 = .ok (.ireturn, 1) := by decide +kernel
theorem d_M_stem_255 : decode c_M_stem 255 = .ok (.iinc 4 1, 3) := by decide +kernel
theorem d_M_stem_258 : decode c_M_stem 258 = .ok (.goto (-52), 3) := by decide +kernel
theorem d_M_stem_261 : decode c_M_stem 261 = .ok (.iconst (-1), 1) := by decide +kernel
theorem d_M_stem_262 : decode c_M_stem 262 = .ok (.ireturn, 1) := by decide +kernel
theorem d_M_sift_0 : decode c_M_sift 0 = .ok (.iconst 0, 1) := by decide +kernel
theorem d_M_sift_1 : decode c_M_sift 1 = .ok (.istore_n 3, 1) := by decide +kernel
theorem d_M_sift_2 : decode c_M_sift 2 = .ok (.iconst 0, 1) := by decide +kernel
theorem d_M_sift_3 : decode c_M_sift 3 = .ok (.istore 4, 2) := by decide +kernel
theorem d_M_sift_5 : decode c_M_sift 5 = .ok (.iload 4, 2) := by decide +kernel
theorem d_M_sift_7 : decode c_M_sift 7 = .ok (.aload_n 0, 1) := by decide +kernel
theorem d_M_sift_8 : decode c_M_sift 8 = .ok (.getfield 64, 3) := by decide +kernel
theorem d_M_sift_11 : decode c_M_sift 11 = .ok (.if_icmp .ge 62, 3) := by decide +kernel
theorem d_M_sift_14 : decode c_M_sift 14 = .ok (.aload_n 0, 1) := by decide +kernel
theorem d_M_sift_15 : decode c_M_sift 15 = .ok (.getfield 48, 3) := by decide +kernel
theorem d_M_sift_18 : decode c_M_sift 18 = .ok (.iload 4, 2) := by decide +kernel
theorem d_M_sift_20 : decode c_M_sift 20 = .ok (.aload_n 0, 1) := by decide +kernel
theorem d_M_sift_21 : decode c_M_sift 21 = .ok (.iload 4, 2) := by decide +kernel
theorem d_M_sift_23 : decode c_M_sift 23 = .ok (.aload_n 0, 1) := by decide +kernel
theorem d_M_sift_24 : decode c_M_sift 24 = .ok (.getfield 75, 3) := by decide +kernel
theorem d_M_sift_27 : decode c_M_sift 27 = .ok (.invokevirtual 82, 3) := by decide +kernel
theorem d_M_sift_30 : decode c_M_sift 30 = .ok (.ifCond .eq 17, 3) := by decide +kernel
theorem d_M_sift_33 : decode c_M_sift 33 = .ok (.aload_n 0, 1) := by decide +kernel
theorem d_M_sift_34 : decode c_M_sift 34 = .ok (.getfield 38, 3) := by decide +kernel
theorem d_M_sift_37 : decode c_M_sift 37 = .ok (.iload 4, 2) := by decide +kernel
theorem d_M_sift_39 : decode c_M_sift 39 = .ok (.baload, 1) := by decide +kernel
theorem d_M_sift_40 : decode c_M_sift 40 = .ok (.ifCond .eq 7, 3) := by decide +kernel
theorem d_M_sift_43 : decode c_M_sift 43 = .ok (.iconst 1, 1) := by decide +kernel
theorem d_M_sift_44 : decode c_M_sift 44 = .ok (.goto 4, 3) := by decide +kernel
theorem d_M_sift_47 : decode c_M_sift 47 = .ok (.iconst 0, 1) := by decide +kernel
theorem d_M_sift_48 : decode c_M_sift 48 = .ok (.bastore, 1) := by decide +kernel
theorem d_M_sift_49 : decode c_M_sift 49 = .ok (.aload_n 0, 1) := by decide +kernel
theorem d_M_sift_50 : decode c_M_sift 50 = .ok (.getfield 48, 3) := by decide +kernel
theorem d_M_sift_53 : decode c_M_sift 53 = .ok (.iload 4, 2) := by decide +kernel
theorem d_M_sift_55 : decode c_M_sift 55 = .ok (.baload, 1) := by decide +kernel
theorem d_M_sift_56 : decode c_M_sift 56 = .ok (.ifCond .eq 9, 3) := by decide +kernel
theorem d_M_sift_59 : decode c_M_sift 59 = .ok (.iload_n 3, 1) := by decide +kernel
theorem d_M_sift_60 : decode c_M_sift 60 = .ok (.iconst 1, 1) := by decide +kernel
theorem d_M_sift_61 : decode c_M_sift 61 = .ok (.iadd, 1) := by decide +kernel
theorem d_M_sift_62 : decode c_M_sift 62 = .ok (.goto 4, 3) := by decide +kernel
theorem d_M_sift_65 : decode c_M_sift 65 = .ok (.iload_n 3, 1) := by decide +kernel
theorem d_M_sift_66 : decode c_M_sift 66 = .ok (.istore_n 3, 1) := by decide +kernel
theorem d_M_sift_67 : decode c_M_sift 67 = .ok (.iinc 4 1, 3) := by decide +kernel
theorem d_M_sift_70 : decode c_M_sift 70 = .ok (.goto (-65), 3) := by decide +kernel
theorem d_M_sift_73 : decode c_M_sift 73 = .ok (.iconst 1, 1) := by decide +kernel
theorem d_M_sift_74 : decode c_M_sift 74 = .ok (.istore 4, 2) := by decide +kernel
theorem d_M_sift_76 : decode c_M_sift 76 = .ok (.iload 4, 2) := by decide +kernel
theorem d_M_sift_78 : decode c_M_sift 78 = .ok (.ifCond .eq 97, 3) := by decide +kernel
theorem d_M_sift_81 : decode c_M_sift 81 = .ok (.iconst 0, 1) := by decide +kernel
theorem d_M_sift_82 : decode c_M_sift 82 = .ok (.istore 4, 2) := by decide +kernel
theorem d_M_sift_84 : decode c_M_sift 84 = .ok (.lload_n 1, 1) := by decide +kernel
theorem d_M_sift_85 : decode c_M_sift 85 = .ok (.ldc2_w 110, 3) := by decide +kernel
theorem d_M_sift_88 : decode c_M_sift 88 = .ok (.aload_n 0, 1) := by decide +kernel
theorem d_M_sift_89 : decode c_M_sift 89 = .ok (.invokevirtual 131, 3) := by decide +kernel
theorem d_M_sift_92 : decode c_M_sift 92 = .ok (.lmul, 1) := by decide +kernel
theorem d_M_sift_93 : decode c_M_sift 93 = .ok (.ladd, 1) := by decide +kernel
theorem d_M_sift_94 : decode c_M_sift 94 = .ok (.lstore 5, 2) := by decide +kernel
theorem d_M_sift_96 : decode c_M_sift 96 = .ok (.iconst 0, 1) := by decide +kernel
theorem d_M_sift_97 : decode c_M_sift 97 = .ok (.istore 7, 2) := by decide +kernel
theorem d_M_sift_99 : decode c_M_sift 99 = .ok (.iload 7, 2) := by decide +kernel
theorem d_M_sift_101 : decode c_M_sift 101 = .ok (.aload_n 0, 1) := by decide +kernel
theorem d_M_sift_102 : decode c_M_sift 102 = .ok (.getfield 64, 3) := by decide +kernel
theorem d_M_sift_105 : decode c_M_sift 105 = .ok (.if_icmp .ge 67, 3) := by decide +kernel
theorem d_M_sift_108 : decode c_M_sift 108 = .ok (.iload 4, 2) := by decide +kernel
theorem d_M_sift_110 : decode c_M_sift 110 = .ok (.ifCond .ne 62, 3) := by decide +kernel
theorem d_M_sift_113 : decode c_M_sift 113 = .ok (.aload_n 0, 1) := by decide +kernel
theorem d_M_sift_114 : decode c_M_sift 114 = .ok (.getfield 48, 3) := by decide +kernel
theorem d_M_sift_117 : decode c_M_sift 117 = .ok (.iload 7, 2) := by decide +kernel
theorem d_M_sift_119 : decode c_M_sift 119 = .ok (.baload, 1) := by decide +kernel
theorem d_M_sift_120 : decode c_M_sift 120 = .ok (.ifCond .eq 46, 3) := by decide +kernel
theorem d_M_sift_123 : decode c_M_sift 123 = .ok (.ldc2_w 110, 3) := by decide +kernel
theorem d_M_sift_126 : decode c_M_sift 126 = .ok (.iload_n 3, 1) := by decide +kernel
theorem d_M_sift_127 : decode c_M_sift 127 = .ok (.i2l, 1) := by decide +kernel
theorem d_M_sift_128 : decode c_M_sift 128 = .ok (.lmul, 1) := by decide +kernel
theorem d_M_sift_129 : decode c_M_sift 129 = .ok (.aload_n 0, 1) := by decide +kernel
theorem d_M_sift_130 : decode c_M_sift 130 = .ok (.getfield 25, 3) := by decide +kernel
theorem d_M_sift_133 : decode c_M_sift 133 = .ok (.bipush 20, 2) := by decide +kernel
theorem d_M_sift_135 : decode c_M_sift 135 = .ok (.iload 7, 2) := by decide +kernel
theorem d_M_sift_137 : decode c_M_sift 137 = .ok (.imul, 1) := by decide +kernel
theorem d_M_sift_138 : decode c_M_sift 138 = .ok (.aload_n 0, 1) := by decide +kernel
theorem d_M_sift_139 : decode c_M_sift 139 = .ok (.getfield 75, 3) := by decide +kernel
theorem d_M_sift_142 : decode c_M_sift 142 = .ok (.iadd, 1) := by decide +kernel
theorem d_M_sift_143 : decode c_M_sift 143 = .ok (.iaload, 1) := by decide +kernel
theorem d_M_sift_144 : decode c_M_sift 144 = .ok (.i2l, 1) := by decide +kernel
theorem d_M_sift_145 : decode c_M_sift 145 = .ok (.lmul, 1) := by decide +kernel
theorem d_M_sift_146 : decode c_M_sift 146 = .ok (.lload 5, 2) := by decide +kernel
theorem d_M_sift_148 : decode c_M_sift 148 = .ok (.lcmp, 1) := by decide +kernel
theorem d_M_sift_149 : decode c_M_sift 149 = .ok (.ifCond .le 17, 3) := by decide +kernel
theorem d_M_sift_152 : decode c_M_sift 152 = .ok (.aload_n 0, 1) := by decide +kernel
theorem d_M_sift_153 : decode c_M_sift 153 = .ok (.getfield 48, 3) := by decide +kernel
theorem d_M_sift_156 : decode c_M_sift 156 = .ok (.iload 7, 2) := by decide +kernel
theorem d_M_sift_158 : decode c_M_sift 158 = .ok (.iconst 0, 1) := by decide +kernel
theorem d_M_sift_159 : decode c_M_sift 159 = .ok (.bastore, 1) := by decide +kernel
theorem d_M_sift_160 : decode c_M_sift 160 = .ok (.iinc 3 (-1), 3) := by decide +kernel
theorem d_M_sift_163 : decode c_M_sift 163 = .ok (.iconst 1, 1) := by decide +kernel
theorem d_M_sift_164 : decode c_M_sift 164 = .ok (.istore 4, 2) := by decide +kernel
theorem d_M_sift_166 : decode c_M_sift 166 = .ok (.iinc 7 1, 3) := by decide +kernel
theorem d_M_sift_169 : decode c_M_sift 169 = .ok (.goto (-70), 3) := by decide +kernel
theorem d_M_sift_172 : decode c_M_sift 172 = .ok (.goto (-96), 3) := by decide +kernel
theorem d_M_sift_175 : decode c_M_sift 175 = .ok (.iload_n 3, 1) := by decide +kernel
theorem d_M_sift_176 : decode c_M_sift 176 = .ok (.ireturn, 1) := by decide +kernel
theorem d_M_giftsIn_0 : decode c_M_giftsIn 0 = .ok (.lconst 0, 1) := by decide +kernel
theorem d_M_giftsIn_1 : decode c_M_giftsIn 1 = .ok (.lstore_n 1, 1) := by decide +kernel
theorem d_M_giftsIn_2 : decode c_M_giftsIn 2 = .ok (.iconst 0, 1) := by decide +kernel
theorem d_M_giftsIn_3 : decode c_M_giftsIn 3 = .ok (.istore_n 3, 1) := by decide +kernel
theorem d_M_giftsIn_4 : decode c_M_giftsIn 4 = .ok (.iload_n 3, 1) := by decide +kernel
theorem d_M_giftsIn_5 : decode c_M_giftsIn 5 = .ok (.aload_n 0, 1) := by decide +kernel
theorem d_M_giftsIn_6 : decode c_M_giftsIn 6 = .ok (.getfield 64, 3) := by decide +kernel
theorem d_M_giftsIn_9 : decode c_M_giftsIn 9 = .ok (.if_icmp .ge 40, 3) := by decide +kernel
theorem d_M_giftsIn_12 : decode c_M_giftsIn 12 = .ok (.aload_n 0, 1) := by decide +kernel
theorem d_M_giftsIn_13 : decode c_M_giftsIn 13 = .ok (.getfield 48, 3) := by decide +kernel
theorem d_M_giftsIn_16 : decode c_M_giftsIn 16 = .ok (.iload_n 3, 1) := by decide +kernel
theorem d_M_giftsIn_17 : decode c_M_giftsIn 17 = .ok (.baload, 1) := by decide +kernel
theorem d_M_giftsIn_18 : decode c_M_giftsIn 18 = .ok (.ifCond .eq 23, 3) := by decide +kernel
theorem d_M_giftsIn_21 : decode c_M_giftsIn 21 = .ok (.lload_n 1, 1) := by decide +kernel
theorem d_M_giftsIn_22 : decode c_M_giftsIn 22 = .ok (.aload_n 0, 1) := by decide +kernel
theorem d_M_giftsIn_23 : decode c_M_giftsIn 23 = .ok (.getfield 25, 3) := by decide +kernel
theorem d_M_giftsIn_26 : decode c_M_giftsIn 26 = .ok (.bipush 20, 2) := by decide +kernel
theorem d_M_giftsIn_28 : decode c_M_giftsIn 28 = .ok (.iload_n 3, 1) := by decide +kernel
theorem d_M_giftsIn_29 : decode c_M_giftsIn 29 = .ok (.imul, 1) := by decide +kernel
theorem d_M_giftsIn_30 : decode c_M_giftsIn 30 = .ok (.aload_n 0, 1) := by decide +kernel
theorem d_M_giftsIn_31 : decode c_M_giftsIn 31 = .ok (.getfield 75, 3) := by decide +kernel
theorem d_M_giftsIn_34 : decode c_M_giftsIn 34 = .ok (.iadd, 1) := by decide +kernel
theorem d_M_giftsIn_35 : decode c_M_giftsIn 35 = .ok (.iaload, 1) := by decide +kernel
theorem d_M_giftsIn_36 : decode c_M_giftsIn 36 = .ok (.i2l, 1) := by decide +kernel
theorem d_M_giftsIn_37 : decode c_M_giftsIn 37 = .ok (.ladd, 1) := by decide +kernel
theorem d_M_giftsIn_38 : decode c_M_giftsIn 38 = .ok (.goto 4, 3) := by decide +kernel
theorem d_M_giftsIn_41 : decode c_M_giftsIn 41 = .ok (.lload_n 1, 1) := by decide +kernel
theorem d_M_giftsIn_42 : decode c_M_giftsIn 42 = .ok (.lstore_n 1, 1) := by decide +kernel
theorem d_M_giftsIn_43 : decode c_M_giftsIn 43 = .ok (.iinc 3 1, 3) := by decide +kernel
theorem d_M_giftsIn_46 : decode c_M_giftsIn 46 = .ok (.goto (-42), 3) := by decide +kernel
theorem d_M_giftsIn_49 : decode c_M_giftsIn 49 = .ok (.lload_n 1, 1) := by decide +kernel
theorem d_M_giftsIn_50 : decode c_M_giftsIn 50 = .ok (.lreturn, 1) := by decide +kernel
theorem d_M_due_0 : decode c_M_due 0 = .ok (.aload_n 0, 1) := by decide +kernel
theorem d_M_due_1 : decode c_M_due 1 = .ok (.iload_n 1, 1) := by decide +kernel
theorem d_M_due_2 : decode c_M_due 2 = .ok (.invokevirtual 98, 3) := by decide +kernel
theorem d_M_due_5 : decode c_M_due 5 = .ok (.aload_n 0, 1) := by decide +kernel
theorem d_M_due_6 : decode c_M_due 6 = .ok (.getfield 93, 3) := by decide +kernel
theorem d_M_due_9 : decode c_M_due 9 = .ok (.ifCond .eq 43, 3) := by decide +kernel
theorem d_M_due_12 : decode c_M_due 12 = .ok (.aload_n 0, 1) := by decide +kernel
theorem d_M_due_13 : decode c_M_due 13 = .ok (.iload_n 1, 1) := by decide +kernel
theorem d_M_due_14 : decode c_M_due 14 = .ok (.invokevirtual 122, 3) := by decide +kernel
theorem d_M_due_17 : decode c_M_due 17 = .ok (.iconst 0, 1) := by decide +kernel
theorem d_M_due_18 : decode c_M_due 18 = .ok (.istore 4, 2) := by decide +kernel
theorem d_M_due_20 : decode c_M_due 20 = .ok (.iload 4, 2) := by decide +kernel
theorem d_M_due_22 : decode c_M_due 22 = .ok (.aload_n 0, 1) := by decide +kernel
theorem d_M_due_23 : decode c_M_due 23 = .ok (.getfield 64, 3) := by decide +kernel
theorem d_M_due_26 : decode c_M_due 26 = .ok (.if_icmp .ge 25, 3) := by decide +kernel
theorem d_M_due_29 : decode c_M_due 29 = .ok (.aload_n 0, 1) := by decide +kernel
theorem d_M_due_30 : decode c_M_due 30 = .ok (.getfield 45, 3) := by decide +kernel
theorem d_M_due_33 : decode c_M_due 33 = .ok (.iload 4, 2) := by decide +kernel
theorem d_M_due_35 : decode c_M_due 35 = .ok (.aload_n 0, 1) := by decide +kernel
theorem d_M_due_36 : decode c_M_due 36 = .ok (.getfield 45, 3) := by decide +kernel
theorem d_M_due_39 : decode c_M_due 39 = .ok (.iload 4, 2) := by decide +kernel
theorem d_M_due_41 : decode c_M_due 41 = .ok (.laload, 1) := by decide +kernel
theorem d_M_due_42 : decode c_M_due 42 = .ok (.lload_n 2, 1) := by decide +kernel
theorem d_M_due_43 : decode c_M_due 43 = .ok (.lmul, 1) := by decide +kernel
theorem d_M_due_44 : decode c_M_due 44 = .ok (.lastore, 1) := by decide +kernel
theorem d_M_due_45 : decode c_M_due 45 = .ok (.iinc 4 1, 3) := by decide +kernel
theorem d_M_due_48 : decode c_M_due 48 = .ok (.goto (-28), 3) := by decide +kernel
theorem d_M_due_51 : decode c_M_due 51 = .ok (.return_, 1) := by decide +kernel
theorem d_M_due_52 : decode c_M_due 52 = .ok (.aload_n 0, 1) := by decide +kernel
theorem d_M_due_53 : decode c_M_due 53 = .ok (.getfield 89, 3) := by decide +kernel
theorem d_M_due_56 : decode c_M_due 56 = .ok (.ifCond .eq 11, 3) := by decide +kernel
theorem d_M_due_59 : decode c_M_due 59 = .ok (.ldc2_w 135, 3) := by decide +kernel
theorem d_M_due_62 : decode c_M_due 62 = .ok (.lload_n 2, 1) := by decide +kernel
theorem d_M_due_63 : decode c_M_due 63 = .ok (.lmul, 1) := by decide +kernel
theorem d_M_due_64 : decode c_M_due 64 = .ok (.goto 8, 3) := by decide +kernel
theorem d_M_due_67 : decode c_M_due 67 = .ok (.ldc2_w 110, 3) := by decide +kernel
theorem d_M_due_70 : decode c_M_due 70 = .ok (.lload_n 2, 1) := by decide +kernel
theorem d_M_due_71 : decode c_M_due 71 = .ok (.lmul, 1) := by decide +kernel
theorem d_M_due_72 : decode c_M_due 72 = .ok (.lstore 4, 2) := by decide +kernel
theorem d_M_due_74 : decode c_M_due 74 = .ok (.aload_n 0, 1) := by decide +kernel
theorem d_M_due_75 : decode c_M_due 75 = .ok (.lload 4, 2) := by decide +kernel
theorem d_M_due_77 : decode c_M_due 77 = .ok (.invokevirtual 137, 3) := by decide +kernel
theorem d_M_due_80 : decode c_M_due 80 = .ok (.istore 6, 2) := by decide +kernel
theorem d_M_due_82 : decode c_M_due 82 = .ok (.lload 4, 2) := by decide +kernel
theorem d_M_due_84 : decode c_M_due 84 = .ok (.ldc2_w 110, 3) := by decide +kernel
theorem d_M_due_87 : decode c_M_due 87 = .ok (.aload_n 0, 1) := by decide +kernel
theorem d_M_due_88 : decode c_M_due 88 = .ok (.invokevirtual 131, 3) := by decide +kernel
theorem d_M_due_91 : decode c_M_due 91 = .ok (.lmul, 1) := by decide +kernel
theorem d_M_due_92 : decode c_M_due 92 = .ok (.ladd, 1) := by decide +kernel
theorem d_M_due_93 : decode c_M_due 93 = .ok (.lstore 7, 2) := by decide +kernel
theorem d_M_due_95 : decode c_M_due 95 = .ok (.aload_n 0, 1) := by decide +kernel
theorem d_M_due_96 : decode c_M_due 96 = .ok (.invokevirtual 102, 3) := by decide +kernel
theorem d_M_due_99 : decode c_M_due 99 = .ok (.aload_n 0, 1) := by decide +kernel
theorem d_M_due_100 : decode c_M_due 100 = .ok (.ldc2_w 110, 3) := by decide +kernel
theorem d_M_due_103 : decode c_M_due 103 = .ok (.iload 6, 2) := by decide +kernel
theorem d_M_due_105 : decode c_M_due 105 = .ok (.i2l, 1) := by decide +kernel
theorem d_M_due_106 : decode c_M_due 106 = .ok (.lmul, 1) := by decide +kernel
theorem d_M_due_107 : decode c_M_due 107 = .ok (.aload_n 0, 1) := by decide +kernel
theorem d_M_due_108 : decode c_M_due 108 = .ok (.getfield 78, 3) := by decide +kernel
theorem d_M_due_111 : decode c_M_due 111 = .ok (.lmul, 1) := by decide +kernel
theorem d_M_due_112 : decode c_M_due 112 = .ok (.putfield 107, 3) := by decide +kernel
theorem d_M_due_115 : decode c_M_due 115 = .ok (.aload_n 0, 1) := by decide +kernel
theorem d_M_due_116 : decode c_M_due 116 = .ok (.getfield 89, 3) := by decide +kernel
theorem d_M_due_119 : decode c_M_due 119 = .ok (.ifCond .eq 24, 3) := by decide +kernel
theorem d_M_due_122 : decode c_M_due 122 = .ok (.aload_n 0, 1) := by decide +kernel
theorem d_M_due_123 : decode c_M_due 123 = .ok (.getfield 45, 3) := by decide +kernel
theorem d_M_due_126 : decode c_M_due 126 = .ok (.aload_n 0, 1) := by decide +kernel
theorem d_M_due_127 : decode c_M_due 127 = .ok (.getfield 16, 3) := by decide +kernel
theorem d_M_due_130 : decode c_M_due 130 = .ok (.iload_n 1, 1) := by decide +kernel
theorem d_M_due_131 : decode c_M_due 131 = .ok (.iaload, 1) := by decide +kernel
theorem d_M_due_132 : decode c_M_due 132 = .ok (.lload_n 2, 1) := by decide +kernel
theorem d_M_due_133 : decode c_M_due 133 = .ok (.iload 6, 2) := by decide +kernel
theorem d_M_due_135 : decode c_M_due 135 = .ok (.i2l, 1) := by decide +kernel
theorem d_M_due_136 : decode c_M_due 136 = .ok (.lmul, 1) := by decide +kernel
theorem d_M_due_137 : decode c_M_due 137 = .ok (.aload_n 0, 1) := by decide +kernel
theorem d_M_due_138 : decode c_M_due 138 = .ok (.getfield 78, 3) := by decide +kernel
theorem d_M_due_141 : decode c_M_due 141 = .ok (.lmul, 1) := by decide +kernel
theorem d_M_due_142 : decode c_M_due 142 = .ok (.lastore, 1) := by decide +kernel
theorem d_M_due_143 : decode c_M_due 143 = .ok (.iconst 0, 1) := by decide +kernel
theorem d_M_due_144 : decode c_M_due 144 = .ok (.istore 9, 2) := by decide +kernel
theorem d_M_due_146 : decode c_M_due 146 = .ok (.iload 9, 2) := by decide +kernel
theorem d_M_due_148 : decode c_M_due 148 = .ok (.aload_n 0, 1) := by decide +kernel
theorem d_M_due_149 : decode c_M_due 149 = .ok (.getfield 64, 3) := by decide +kernel
theorem d_M_due_152 : decode c_M_due 152 = .ok (.if_icmp .ge 59, 3) := by decide +kernel
theorem d_M_due_155 : decode c_M_due 155 = .ok (.aload_n 0, 1) := by decide +kernel
theorem d_M_due_156 : decode c_M_due 156 = .ok (.getfield 41, 3) := by decide +kernel
theorem d_M_due_159 : decode c_M_due 159 = .ok (.iload 9, 2) := by decide +kernel
theorem d_M_due_161 : decode c_M_due 161 = .ok (.aload_n 0, 1) := by decide +kernel
theorem d_M_due_162 : decode c_M_due 162 = .ok (.getfield 48, 3) := by decide +kernel
theorem d_M_due_165 : decode c_M_due 165 = .ok (.iload 9, 2) := by decide +kernel
theorem d_M_due_167 : decode c_M_due 167 = .ok (.baload, 1) := by decide +kernel
theorem d_M_due_168 : decode c_M_due 168 = .ok (.ifCond .eq 35, 3) := by decide +kernel
theorem d_M_due_171 : decode c_M_due 171 = .ok (.lload 7, 2) := by decide +kernel
theorem d_M_due_173 : decode c_M_due 173 = .ok (.ldc2_w 110, 3) := by decide +kernel
theorem d_M_due_176 : decode c_M_due 176 = .ok (.iload 6, 2) := by decide +kernel
theorem d_M_due_178 : decode c_M_due 178 = .ok (.i2l, 1) := by decide +kernel
theorem d_M_due_179 : decode c_M_due 179 = .ok (.lmul, 1) := by decide +kernel
theorem d_M_due_180 : decode c_M_due 180 = .ok (.aload_n 0, 1) := by decide +kernel
theorem d_M_due_181 : decode c_M_due 181 = .ok (.getfield 25, 3) := by decide +kernel
theorem d_M_due_184 : decode c_M_due 184 = .ok (.bipush 20, 2) := by decide +kernel
theorem d_M_due_186 : decode c_M_due 186 = .ok (.iload 9, 2) := by decide +kernel
theorem d_M_due_188 : decode c_M_due 188 = .ok (.imul, 1) := by decide +kernel
theorem d_M_due_189 : decode c_M_due 189 = .ok (.iload_n 1, 1) := by decide +kernel
theorem d_M_due_190 : decode c_M_due 190 = .ok (.iadd, 1) := by decide +kernel
theorem d_M_due_191 : decode c_M_due 191 = .ok (.iaload, 1) := by decide +kernel
theorem d_M_due_192 : decode c_M_due 192 = .ok (.i2l, 1) := by decide +kernel
theorem d_M_due_193 : decode c_M_due 193 = .ok (.lmul, 1) := by decide +kernel
theorem d_M_due_194 : decode c_M_due 194 = .ok (.lsub, 1) := by decide +kernel
theorem d_M_due_195 : decode c_M_due 195 = .ok (.aload_n 0, 1) := by decide +kernel
theorem d_M_due_196 : decode c_M_due 196 = .ok (.getfield 78, 3) := by decide +kernel
theorem d_M_due_199 : decode c_M_due 199 = .ok (.lmul, 1) := by decide +kernel
theorem d_M_due_200 : decode c_M_due 200 = .ok (.goto 4, 3) := by decide +kernel
theorem d_M_due_203 : decode c_M_due 203 = .ok (.lconst 0, 1) := by decide +kernel
theorem d_M_due_204 : decode c_M_due 204 = .ok (.lastore, 1) := by decide +kernel
theorem d_M_due_205 : decode c_M_due 205 = .ok (.iinc 9 1, 3) := by decide +kernel
theorem d_M_due_208 : decode c_M_due 208 = .ok (.goto (-62), 3) := by decide +kernel
theorem d_M_due_211 : decode c_M_due 211 = .ok (.aload_n 0, 1) := by decide +kernel
theorem d_M_due_212 : decode c_M_due 212 = .ok (.invokevirtual 115, 3) := by decide +kernel
theorem d_M_due_215 : decode c_M_due 215 = .ok (.return_, 1) := by decide +kernel
theorem d_M_pay_0 : decode c_M_pay 0 = .ok (.aload_n 0, 1) := by decide +kernel
theorem d_M_pay_1 : decode c_M_pay 1 = .ok (.getfield 51, 3) := by decide +kernel
theorem d_M_pay_4 : decode c_M_pay 4 = .ok (.bipush 21, 2) := by decide +kernel
theorem d_M_pay_6 : decode c_M_pay 6 = .ok (.iload_n 1, 1) := by decide +kernel
theorem d_M_pay_7 : decode c_M_pay 7 = .ok (.imul, 1) := by decide +kernel
theorem d_M_pay_8 : decode c_M_pay 8 = .ok (.iload_n 2, 1) := by decide +kernel
theorem d_M_pay_9 : decode c_M_pay 9 = .ok (.iadd, 1) := by decide +kernel
theorem d_M_pay_10 : decode c_M_pay 10 = .ok (.dup2, 1) := by decide +kernel
theorem d_M_pay_11 : decode c_M_pay 11 = .ok (.laload, 1) := by decide +kernel
theorem d_M_pay_12 : decode c_M_pay 12 = .ok (.lload_n 3, 1) := by decide +kernel
theorem d_M_pay_13 : decode c_M_pay 13 = .ok (.ladd, 1) := by decide +kernel
theorem d_M_pay_14 : decode c_M_pay 14 = .ok (.lastore, 1) := by decide +kernel
theorem d_M_pay_15 : decode c_M_pay 15 = .ok (.aload_n 0, 1) := by decide +kernel
theorem d_M_pay_16 : decode c_M_pay 16 = .ok (.getfield 57, 3) := by decide +kernel
theorem d_M_pay_19 : decode c_M_pay 19 = .ok (.iload_n 2, 1) := by decide +kernel
theorem d_M_pay_20 : decode c_M_pay 20 = .ok (.dup2, 1) := by decide +kernel
theorem d_M_pay_21 : decode c_M_pay 21 = .ok (.laload, 1) := by decide +kernel
theorem d_M_pay_22 : decode c_M_pay 22 = .ok (.lload_n 3, 1) := by decide +kernel
theorem d_M_pay_23 : decode c_M_pay 23 = .ok (.ladd, 1) := by decide +kernel
theorem d_M_pay_24 : decode c_M_pay 24 = .ok (.lastore, 1) := by decide +kernel
theorem d_M_pay_25 : decode c_M_pay 25 = .ok (.return_, 1) := by decide +kernel
theorem d_M_settleOne_0 : decode c_M_settleOne 0 = .ok (.aload_n 0, 1) := by decide +kernel
theorem d_M_settleOne_1 : decode c_M_settleOne 1 = .ok (.getfield 54, 3) := by decide +kernel
theorem d_M_settleOne_4 : decode c_M_settleOne 4 = .ok (.iload_n 1, 1) := by decide +kernel
theorem d_M_settleOne_5 : decode c_M_settleOne 5 = .ok (.laload, 1) := by decide +kernel
theorem d_M_settleOne_6 : decode c_M_settleOne 6 = .ok (.lstore_n 2, 1) := by decide +kernel
theorem d_M_settleOne_7 : decode c_M_settleOne 7 = .ok (.aload_n 0, 1) := by decide +kernel
theorem d_M_settleOne_8 : decode c_M_settleOne 8 = .ok (.iload_n 1, 1) := by decide +kernel
theorem d_M_settleOne_9 : decode c_M_settleOne 9 = .ok (.lload_n 2, 1) := by decide +kernel
theorem d_M_settleOne_10 : decode c_M_settleOne 10 = .ok (.invokevirtual 141, 3) := by decide +kernel
theorem d_M_settleOne_13 : decode c_M_settleOne 13 = .ok (.aload_n 0, 1) := by decide +kernel
theorem d_M_settleOne_14 : decode c_M_settleOne 14 = .ok (.getfield 93, 3) := by decide +kernel
theorem d_M_settleOne_17 : decode c_M_settleOne 17 = .ok (.iconst 5, 1) := by decide +kernel
theorem d_M_settleOne_18 : decode c_M_settleOne 18 = .ok (.if_icmp .ne 12, 3) := by decide +kernel
theorem d_M_settleOne_21 : decode c_M_settleOne 21 = .ok (.aload_n 0, 1) := by decide +kernel
theorem d_M_settleOne_22 : decode c_M_settleOne 22 = .ok (.iload_n 1, 1) := by decide +kernel
theorem d_M_settleOne_23 : decode c_M_settleOne 23 = .ok (.bipush 20, 2) := by decide +kernel
theorem d_M_settleOne_25 : decode c_M_settleOne 25 = .ok (.lload_n 2, 1) := by decide +kernel
theorem d_M_settleOne_26 : decode c_M_settleOne 26 = .ok (.invokevirtual 145, 3) := by decide +kernel
theorem d_M_settleOne_29 : decode c_M_settleOne 29 = .ok (.return_, 1) := by decide +kernel
theorem d_M_settleOne_30 : decode c_M_settleOne 30 = .ok (.lload_n 2, 1) := by decide +kernel
theorem d_M_settleOne_31 : decode c_M_settleOne 31 = .ok (.lstore 4, 2) := by decide +kernel
theorem d_M_settleOne_33 : decode c_M_settleOne 33 = .ok (.iconst 0, 1) := by decide +kernel
theorem d_M_settleOne_34 : decode c_M_settleOne 34 = .ok (.istore 6, 2) := by decide +kernel
theorem d_M_settleOne_36 : decode c_M_settleOne 36 = .ok (.iload 6, 2) := by decide +kernel
theorem d_M_settleOne_38 : decode c_M_settleOne 38 = .ok (.aload_n 0, 1) := by decide +kernel
theorem d_M_settleOne_39 : decode c_M_settleOne 39 = .ok (.getfield 64, 3) := by decide +kernel
theorem d_M_settleOne_42 : decode c_M_settleOne 42 = .ok (.if_icmp .ge 64, 3) := by decide +kernel
theorem d_M_settleOne_45 : decode c_M_settleOne 45 = .ok (.lload 4, 2) := by decide +kernel
theorem d_M_settleOne_47 : decode c_M_settleOne 47 = .ok (.aload_n 0, 1) := by decide +kernel
theorem d_M_settleOne_48 : decode c_M_settleOne 48 = .ok (.getfield 45, 3) := by decide +kernel
theorem d_M_settleOne_51 : decode c_M_settleOne 51 = .ok (.iload 6, 2) := by decide +kernel
theorem d_M_settleOne_53 : decode c_M_settleOne 53 = .ok (.laload, 1) := by decide +kernel
theorem d_M_settleOne_54 : decode c_M_settleOne 54 = .ok (.aload_n 0, 1) := by decide +kernel
theorem d_M_settleOne_55 : decode c_M_settleOne 55 = .ok (.getfield 107, 3) := by decide +kernel
theorem d_M_settleOne_58 : decode c_M_settleOne 58 = .ok (.ldiv, 1) := by decide +kernel
theorem d_M_settleOne_59 : decode c_M_settleOne 59 = .ok (.lsub, 1) := by decide +kernel
theorem d_M_settleOne_60 : decode c_M_settleOne 60 = .ok (.lstore 4, 2) := by decide +kernel
theorem d_M_settleOne_62 : decode c_M_settleOne 62 = .ok (.aload_n 0, 1) := by decide +kernel
theorem d_M_settleOne_63 : decode c_M_settleOne 63 = .ok (.iload_n 1, 1) := by decide +kernel
theorem d_M_settleOne_64 : decode c_M_settleOne 64 = .ok (.iload 6, 2) := by decide +kernel
theorem d_M_settleOne_66 : decode c_M_settleOne 66 = .ok (.aload_n 0, 1) := by decide +kernel
theorem d_M_settleOne_67 : decode c_M_settleOne 67 = .ok (.getfield 45, 3) := by decide +kernel
theorem d_M_settleOne_70 : decode c_M_settleOne 70 = .ok (.iload 6, 2) := by decide +kernel
theorem d_M_settleOne_72 : decode c_M_settleOne 72 = .ok (.laload, 1) := by decide +kernel
theorem d_M_settleOne_73 : decode c_M_settleOne 73 = .ok (.aload_n 0, 1) := by decide +kernel
theorem d_M_settleOne_74 : decode c_M_settleOne 74 = .ok (.getfield 107, 3) := by decide +kernel
theorem d_M_settleOne_77 : decode c_M_settleOne 77 = .ok (.ldiv, 1) := by decide +kernel
theorem d_M_settleOne_78 : decode c_M_settleOne 78 = .ok (.invokevirtual 145, 3) := by decide +kernel
theorem d_M_settleOne_81 : decode c_M_settleOne 81 = .ok (.aload_n 0, 1) := by decide +kernel
theorem d_M_settleOne_82 : decode c_M_settleOne 82 = .ok (.getfield 45, 3) := by decide +kernel
theorem d_M_settleOne_85 : decode c_M_settleOne 85 = .ok (.iload 6, 2) := by decide +kernel
theorem d_M_settleOne_87 : decode c_M_settleOne 87 = .ok (.aload_n 0, 1) := by decide +kernel
theorem d_M_settleOne_88 : decode c_M_settleOne 88 = .ok (.getfield 45, 3) := by decide +kernel
theorem d_M_settleOne_91 : decode c_M_settleOne 91 = .ok (.iload 6, 2) := by decide +kernel
theorem d_M_settleOne_93 : decode c_M_settleOne 93 = .ok (.laload, 1) := by decide +kernel
theorem d_M_settleOne_94 : decode c_M_settleOne 94 = .ok (.aload_n 0, 1) := by decide +kernel
theorem d_M_settleOne_95 : decode c_M_settleOne 95 = .ok (.getfield 107, 3) := by decide +kernel
theorem d_M_settleOne_98 : decode c_M_settleOne 98 = .ok (.lrem, 1) := by decide +kernel
theorem d_M_settleOne_99 : decode c_M_settleOne 99 = .ok (.lastore, 1) := by decide +kernel
theorem d_M_settleOne_100 : decode c_M_settleOne 100 = .ok (.iinc 6 1, 3) := by decide +kernel
theorem d_M_settleOne_103 : decode c_M_settleOne 103 = .ok (.goto (-67), 3) := by decide +kernel
theorem d_M_settleOne_106 : decode c_M_settleOne 106 = .ok (.lload 4, 2) := by decide +kernel
theorem d_M_settleOne_108 : decode c_M_settleOne 108 = .ok (.lconst 0, 1) := by decide +kernel
theorem d_M_settleOne_109 : decode c_M_settleOne 109 = .ok (.lcmp, 1) := by decide +kernel
theorem d_M_settleOne_110 : decode c_M_settleOne 110 = .ok (.ifCond .le 78, 3) := by decide +kernel
theorem d_M_settleOne_113 : decode c_M_settleOne 113 = .ok (.iconst 0, 1) := by decide +kernel
theorem d_M_settleOne_114 : decode c_M_settleOne 114 = .ok (.istore 6, 2) := by decide +kernel
theorem d_M_settleOne_116 : decode c_M_settleOne 116 = .ok (.iconst 1, 1) := by decide +kernel
theorem d_M_settleOne_117 : decode c_M_settleOne 117 = .ok (.istore 7, 2) := by decide +kernel
theorem d_M_settleOne_119 : decode c_M_settleOne 119 = .ok (.iload 7, 2) := by decide +kernel
theorem d_M_settleOne_121 : decode c_M_settleOne 121 = .ok (.aload_n 0, 1) := by decide +kernel
theorem d_M_settleOne_122 : decode c_M_settleOne 122 = .ok (.getfield 64, 3) := by decide +kernel
theorem d_M_settleOne_125 : decode c_M_settleOne 125 = .ok (.if_icmp .ge 36, 3) := by decide +kernel
theorem d_M_settleOne_128 : decode c_M_settleOne 128 = .ok (.aload_n 0, 1) := by decide +kernel
theorem d_M_settleOne_129 : decode c_M_settleOne 129 = .ok (.getfield 45, 3) := by decide +kernel
theorem d_M_settleOne_132 : decode c_M_settleOne 132 = .ok (.iload 7, 2) := by decide +kernel
theorem d_M_settleOne_134 : decode c_M_settleOne 134 = .ok (.laload, 1) := by decide +kernel
theorem d_M_settleOne_135 : decode c_M_settleOne 135 = .ok (.aload_n 0, 1) := by decide +kernel
theorem d_M_settleOne_136 : decode c_M_settleOne 136 = .ok (.getfield 45, 3) := by decide +kernel
theorem d_M_settleOne_139 : decode c_M_settleOne 139 = .ok (.iload 6, 2) := by decide +kernel
theorem d_M_settleOne_141 : decode c_M_settleOne 141 = .ok (.laload, 1) := by decide +kernel
theorem d_M_settleOne_142 : decode c_M_settleOne 142 = .ok (.lcmp, 1) := by decide +kernel
theorem d_M_settleOne_143 : decode c_M_settleOne 143 = .ok (.ifCond .le 8, 3) := by decide +kernel
theorem d_M_settleOne_146 : decode c_M_settleOne 146 = .ok (.iload 7, 2) := by decide +kernel
theorem d_M_settleOne_148 : decode c_M_settleOne 148 = .ok (.goto 5, 3) := by decide +kernel
theorem d_M_settleOne_151 : decode c_M_settleOne 151 = .ok (.iload 6, 2) := by decide +kernel
theorem d_M_settleOne_153 : decode c_M_settleOne 153 = .ok (.istore 6, 2) := by decide +kernel
theorem d_M_settleOne_155 : decode c_M_settleOne 155 = .ok (.iinc 7 1, 3) := by decide +kernel
theorem d_M_settleOne_158 : decode c_M_settleOne 158 = .ok (.goto (-39), 3) := by decide +kernel
theorem d_M_settleOne_161 : decode c_M_settleOne 161 = .ok (.aload_n 0, 1) := by decide +kernel
theorem d_M_settleOne_162 : decode c_M_settleOne 162 = .ok (.getfield 45, 3) := by decide +kernel
theorem d_M_settleOne_165 : decode c_M_settleOne 165 = .ok (.iload 6, 2) := by decide +kernel
theorem d_M_settleOne_167 : decode c_M_settleOne 167 = .ok (.ldc2_w 149, 3) := by decide +kernel
theorem d_M_settleOne_170 : decode c_M_settleOne 170 = .ok (.lastore, 1) := by decide +kernel
theorem d_M_settleOne_171 : decode c_M_settleOne 171 = .ok (.aload_n 0, 1) := by decide +kernel
theorem d_M_settleOne_172 : decode c_M_settleOne 172 = .ok (.iload_n 1, 1) := by decide +kernel
theorem d_M_settleOne_173 : decode c_M_settleOne 173 = .ok (.iload 6, 2) := by decide +kernel
theorem d_M_settleOne_175 : decode c_M_settleOne 175 = .ok (.lconst 1, 1) := by decide +kernel
theorem d_M_settleOne_176 : decode c_M_settleOne 176 = .ok (.invokevirtual 145, 3) := by decide +kernel
theorem d_M_settleOne_179 : decode c_M_settleOne 179 = .ok (.lload 4, 2) := by decide +kernel
theorem d_M_settleOne_181 : decode c_M_settleOne 181 = .ok (.lconst 1, 1) := by decide +kernel
theorem d_M_settleOne_182 : decode c_M_settleOne 182 = .ok (.lsub, 1) := by decide +kernel
theorem d_M_settleOne_183 : decode c_M_settleOne 183 = .ok (.lstore 4, 2) := by decide +kernel
theorem d_M_settleOne_185 : decode c_M_settleOne 185 = .ok (.goto (-79), 3) := by decide +kernel
theorem d_M_settleOne_188 : decode c_M_settleOne 188 = .ok (.return_, 1) := by decide +kernel
theorem d_M_settle_0 : decode c_M_settle 0 = .ok (.aload_n 0, 1) := by decide +kernel
theorem d_M_settle_1 : decode c_M_settle 1 = .ok (.iconst 0, 1) := by decide +kernel
theorem d_M_settle_2 : decode c_M_settle 2 = .ok (.putfield 60, 3) := by decide +kernel
theorem d_M_settle_5 : decode c_M_settle 5 = .ok (.iconst 0, 1) := by decide +kernel
theorem d_M_settle_6 : decode c_M_settle 6 = .ok (.istore_n 1, 1) := by decide +kernel
theorem d_M_settle_7 : decode c_M_settle 7 = .ok (.iload_n 1, 1) := by decide +kernel
theorem d_M_settle_8 : decode c_M_settle 8 = .ok (.sipush 420, 3) := by decide +kernel
theorem d_M_settle_11 : decode c_M_settle 11 = .ok (.if_icmp .ge 16, 3) := by decide +kernel
theorem d_M_settle_14 : decode c_M_settle 14 = .ok (.aload_n 0, 1) := by decide +kernel
theorem d_M_settle_15 : decode c_M_settle 15 = .ok (.getfield 51, 3) := by decide +kernel
theorem d_M_settle_18 : decode c_M_settle 18 = .ok (.iload_n 1, 1) := by decide +kernel
theorem d_M_settle_19 : decode c_M_settle 19 = .ok (.lconst 0, 1) := by decide +kernel
theorem d_M_settle_20 : decode c_M_settle 20 = .ok (.lastore, 1) := by decide +kernel
theorem d_M_settle_21 : decode c_M_settle 21 = .ok (.iinc 1 1, 3) := by decide +kernel
theorem d_M_settle_24 : decode c_M_settle 24 = .ok (.goto (-17), 3) := by decide +kernel
theorem d_M_settle_27 : decode c_M_settle 27 = .ok (.iconst 0, 1) := by decide +kernel
theorem d_M_settle_28 : decode c_M_settle 28 = .ok (.istore_n 1, 1) := by decide +kernel
theorem d_M_settle_29 : decode c_M_settle 29 = .ok (.iload_n 1, 1) := by decide +kernel
theorem d_M_settle_30 : decode c_M_settle 30 = .ok (.bipush 21, 2) := by decide +kernel
theorem d_M_settle_32 : decode c_M_settle 32 = .ok (.if_icmp .ge 16, 3) := by decide +kernel
theorem d_M_settle_35 : decode c_M_settle 35 = .ok (.aload_n 0, 1) := by decide +kernel
theorem d_M_settle_36 : decode c_M_settle 36 = .ok (.getfield 57, 3) := by decide +kernel
theorem d_M_settle_39 : decode c_M_settle 39 = .ok (.iload_n 1, 1) := by decide +kernel
theorem d_M_settle_40 : decode c_M_settle 40 = .ok (.lconst 0, 1) := by decide +kernel
theorem d_M_settle_41 : decode c_M_settle 41 = .ok (.lastore, 1) := by decide +kernel
theorem d_M_settle_42 : decode c_M_settle 42 = .ok (.iinc 1 1, 3) := by decide +kernel
theorem d_M_settle_45 : decode c_M_settle 45 = .ok (.goto (-16), 3) := by decide +kernel
theorem d_M_settle_48 : decode c_M_settle 48 = .ok (.iconst 0, 1) := by decide +kernel
theorem d_M_settle_49 : decode c_M_settle 49 = .ok (.istore_n 1, 1) := by decide +kernel
theorem d_M_settle_50 : decode c_M_settle 50 = .ok (.iconst 0, 1) := by decide +kernel
theorem d_M_settle_51 : decode c_M_settle 51 = .ok (.istore_n 2, 1) := by decide +kernel
theorem d_M_settle_52 : decode c_M_settle 52 = .ok (.iload_n 2, 1) := by decide +kernel
theorem d_M_settle_53 : decode c_M_settle 53 = .ok (.bipush 20, 2) := by decide +kernel
theorem d_M_settle_55 : decode c_M_settle 55 = .ok (.if_icmp .ge 16, 3) := by decide +kernel
theorem d_M_settle_58 : decode c_M_settle 58 = .ok (.aload_n 0, 1) := by decide +kernel
theorem d_M_settle_59 : decode c_M_settle 59 = .ok (.getfield 54, 3) := by decide +kernel
theorem d_M_settle_62 : decode c_M_settle 62 = .ok (.iload_n 2, 1) := by decide +kernel
theorem d_M_settle_63 : decode c_M_settle 63 = .ok (.lconst 0, 1) := by decide +kernel
theorem d_M_settle_64 : decode c_M_settle 64 = .ok (.lastore, 1) := by decide +kernel
theorem d_M_settle_65 : decode c_M_settle 65 = .ok (.iinc 2 1, 3) := by decide +kernel
theorem d_M_settle_68 : decode c_M_settle 68 = .ok (.goto (-16), 3) := by decide +kernel
theorem d_M_settle_71 : decode c_M_settle 71 = .ok (.iconst 0, 1) := by decide +kernel
theorem d_M_settle_72 : decode c_M_settle 72 = .ok (.istore_n 2, 1) := by decide +kernel
theorem d_M_settle_73 : decode c_M_settle 73 = .ok (.iload_n 2, 1) := by decide +kernel
theorem d_M_settle_74 : decode c_M_settle 74 = .ok (.sipush 1000, 3) := by decide +kernel
theorem d_M_settle_77 : decode c_M_settle 77 = .ok (.if_icmp .ge 98, 3) := by decide +kernel
theorem d_M_settle_80 : decode c_M_settle 80 = .ok (.iconst 0, 1) := by decide +kernel
theorem d_M_settle_81 : decode c_M_settle 81 = .ok (.istore_n 3, 1) := by decide +kernel
theorem d_M_settle_82 : decode c_M_settle 82 = .ok (.iload_n 3, 1) := by decide +kernel
theorem d_M_settle_83 : decode c_M_settle 83 = .ok (.aload_n 0, 1) := by decide +kernel
theorem d_M_settle_84 : decode c_M_settle 84 = .ok (.getfield 64, 3) := by decide +kernel
theorem d_M_settle_87 : decode c_M_settle 87 = .ok (.if_icmp .ge 48, 3) := by decide +kernel
theorem d_M_settle_90 : decode c_M_settle 90 = .ok (.aload_n 0, 1) := by decide +kernel
theorem d_M_settle_91 : decode c_M_settle 91 = .ok (.getfield 54, 3) := by decide +kernel
theorem d_M_settle_94 : decode c_M_settle 94 = .ok (.iload_n 3, 1) := by decide +kernel
theorem d_M_settle_95 : decode c_M_settle 95 = .ok (.aload_n 0, 1) := by decide +kernel
theorem d_M_settle_96 : decode c_M_settle 96 = .ok (.getfield 19, 3) := by decide +kernel
theorem d_M_settle_99 : decode c_M_settle 99 = .ok (.iload_n 3, 1) := by decide +kernel
theorem d_M_settle_100 : decode c_M_settle 100 = .ok (.iaload, 1) := by decide +kernel
theorem d_M_settle_101 : decode c_M_settle 101 = .ok (.iload_n 2, 1) := by decide +kernel
theorem d_M_settle_102 : decode c_M_settle 102 = .ok (.if_icmp .ne 20, 3) := by decide +kernel
theorem d_M_settle_105 : decode c_M_settle 105 = .ok (.aload_n 0, 1) := by decide +kernel
theorem d_M_settle_106 : decode c_M_settle 106 = .ok (.getfield 22, 3) := by decide +kernel
theorem d_M_settle_109 : decode c_M_settle 109 = .ok (.iload_n 3, 1) := by decide +kernel
theorem d_M_settle_110 : decode c_M_settle 110 = .ok (.iaload, 1) := by decide +kernel
theorem d_M_settle_111 : decode c_M_settle 111 = .ok (.i2l, 1) := by decide +kernel
theorem d_M_settle_112 : decode c_M_settle 112 = .ok (.aload_n 0, 1) := by decide +kernel
theorem d_M_settle_113 : decode c_M_settle 113 = .ok (.getfield 57, 3) := by decide +kernel
theorem d_M_settle_116 : decode c_M_settle 116 = .ok (.iload_n 3, 1) := by decide +kernel
theorem d_M_settle_117 : decode c_M_settle 117 = .ok (.laload, 1) := by decide +kernel
theorem d_M_settle_118 : decode c_M_settle 118 = .ok (.ladd, 1) := by decide +kernel
theorem d_M_settle_119 : decode c_M_settle 119 = .ok (.goto 9, 3) := by decide +kernel
theorem d_M_settle_122 : decode c_M_settle 122 = .ok (.aload_n 0, 1) := by decide +kernel
theorem d_M_settle_123 : decode c_M_settle 123 = .ok (.getfield 54, 3) := by decide +kernel
theorem d_M_settle_126 : decode c_M_settle 126 = .ok (.iload_n 3, 1) := by decide +kernel
theorem d_M_settle_127 : decode c_M_settle 127 = .ok (.laload, 1) := by decide +kernel
theorem d_M_settle_128 : decode c_M_settle 128 = .ok (.lastore, 1) := by decide +kernel
theorem d_M_settle_129 : decode c_M_settle 129 = .ok (.iinc 3 1, 3) := by decide +kernel
theorem d_M_settle_132 : decode c_M_settle 132 = .ok (.goto (-50), 3) := by decide +kernel
theorem d_M_settle_135 : decode c_M_settle 135 = .ok (.iconst 0, 1) := by decide +kernel
theorem d_M_settle_136 : decode c_M_settle 136 = .ok (.istore_n 3, 1) := by decide +kernel
theorem d_M_settle_137 : decode c_M_settle 137 = .ok (.iload_n 3, 1) := by decide +kernel
theorem d_M_settle_138 : decode c_M_settle 138 = .ok (.aload_n 0, 1) := by decide +kernel
theorem d_M_settle_139 : decode c_M_settle 139 = .ok (.getfield 64, 3) := by decide +kernel
theorem d_M_settle_142 : decode c_M_settle 142 = .ok (.if_icmp .ge 27, 3) := by decide +kernel
theorem d_M_settle_145 : decode c_M_settle 145 = .ok (.aload_n 0, 1) := by decide +kernel
theorem d_M_settle_146 : decode c_M_settle 146 = .ok (.getfield 19, 3) := by decide +kernel
theorem d_M_settle_149 : decode c_M_settle 149 = .ok (.iload_n 3, 1) := by decide +kernel
theorem d_M_settle_150 : decode c_M_settle 150 = .ok (.iaload, 1) := by decide +kernel
theorem d_M_settle_151 : decode c_M_settle 151 = .ok (.iload_n 2, 1) := by decide +kernel
theorem d_M_settle_152 : decode c_M_settle 152 = .ok (.if_icmp .ne 11, 3) := by decide +kernel
theorem d_M_settle_155 : decode c_M_settle 155 = .ok (.aload_n 0, 1) := by decide +kernel
theorem d_M_settle_156 : decode c_M_settle 156 = .ok (.iload_n 3, 1) := by decide +kernel
theorem d_M_settle_157 : decode c_M_settle 157 = .ok (.invokevirtual 151, 3) := by decide +kernel
theorem d_M_settle_160 : decode c_M_settle 160 = .ok (.iinc 1 1, 3) := by decide +kernel
theorem d_M_settle_163 : decode c_M_settle 163 = .ok (.iinc 3 1, 3) := by decide +kernel
theorem d_M_settle_166 : decode c_M_settle 166 = .ok (.goto (-29), 3) := by decide +kernel
theorem d_M_settle_169 : decode c_M_settle 169 = .ok (.iinc 2 1, 3) := by decide +kernel
theorem d_M_settle_172 : decode c_M_settle 172 = .ok (.goto (-99), 3) := by decide +kernel
theorem d_M_settle_175 : decode c_M_settle 175 = .ok (.iload_n 1, 1) := by decide +kernel
theorem d_M_settle_176 : decode c_M_settle 176 = .ok (.ireturn, 1) := by decide +kernel
theorem d_M_paid_0 : decode c_M_paid 0 = .ok (.aload_n 0, 1) := by decide +kernel
theorem d_M_paid_1 : decode c_M_paid 1 = .ok (.aload_n 0, 1) := by decide +kernel
theorem d_M_paid_2 : decode c_M_paid 2 = .ok (.iload_n 1, 1) := by decide +kernel
theorem d_M_paid_3 : decode c_M_paid 3 = .ok (.invokevirtual 67, 3) := by decide +kernel
theorem d_M_paid_6 : decode c_M_paid 6 = .ok (.ifCond .ne 16, 3) := by decide +kernel
theorem d_M_paid_9 : decode c_M_paid 9 = .ok (.iload_n 2, 1) := by decide +kernel
theorem d_M_paid_10 : decode c_M_paid 10 = .ok (.iconst (-1), 1) := by decide +kernel
theorem d_M_paid_11 : decode c_M_paid 11 = .ok (.if_icmp .eq 15, 3) := by decide +kernel
theorem d_M_paid_14 : decode c_M_paid 14 = .ok (.aload_n 0, 1) := by decide +kernel
theorem d_M_paid_15 : decode c_M_paid 15 = .ok (.iload_n 2, 1) := by decide +kernel
theorem d_M_paid_16 : decode c_M_paid 16 = .ok (.invokevirtual 67, 3) := by decide +kernel
theorem d_M_paid_19 : decode c_M_paid 19 = .ok (.ifCond .eq 7, 3) := by decide +kernel
theorem d_M_paid_22 : decode c_M_paid 22 = .ok (.iconst 1, 1) := by decide +kernel
theorem d_M_paid_23 : decode c_M_paid 23 = .ok (.goto 4, 3) := by decide +kernel
theorem d_M_paid_26 : decode c_M_paid 26 = .ok (.iconst 0, 1) := by decide +kernel
theorem d_M_paid_27 : decode c_M_paid 27 = .ok (.putfield 60, 3) := by decide +kernel
theorem d_M_paid_30 : decode c_M_paid 30 = .ok (.aload_n 0, 1) := by decide +kernel
theorem d_M_paid_31 : decode c_M_paid 31 = .ok (.getfield 60, 3) := by decide +kernel
theorem d_M_paid_34 : decode c_M_paid 34 = .ok (.ifCond .le 7, 3) := by decide +kernel
theorem d_M_paid_37 : decode c_M_paid 37 = .ok (.lconst 0, 1) := by decide +kernel
theorem d_M_paid_38 : decode c_M_paid 38 = .ok (.goto 24, 3) := by decide +kernel
theorem d_M_paid_41 : decode c_M_paid 41 = .ok (.aload_n 0, 1) := by decide +kernel
theorem d_M_paid_42 : decode c_M_paid 42 = .ok (.getfield 51, 3) := by decide +kernel
theorem d_M_paid_45 : decode c_M_paid 45 = .ok (.bipush 21, 2) := by decide +kernel
theorem d_M_paid_47 : decode c_M_paid 47 = .ok (.iload_n 1, 1) := by decide +kernel
theorem d_M_paid_48 : decode c_M_paid 48 = .ok (.imul, 1) := by decide +kernel
theorem d_M_paid_49 : decode c_M_paid 49 = .ok (.iload_n 2, 1) := by decide +kernel
theorem d_M_paid_50 : decode c_M_paid 50 = .ok (.iconst (-1), 1) := by decide +kernel
theorem d_M_paid_51 : decode c_M_paid 51 = .ok (.if_icmp .ne 8, 3) := by decide +kernel
theorem d_M_paid_54 : decode c_M_paid 54 = .ok (.bipush 20, 2) := by decide +kernel
theorem d_M_paid_56 : decode c_M_paid 56 = .ok (.goto 4, 3) := by decide +kernel
theorem d_M_paid_59 : decode c_M_paid 59 = .ok (.iload_n 2, 1) := by decide +kernel
theorem d_M_paid_60 : decode c_M_paid 60 = .ok (.iadd, 1) := by decide +kernel
theorem d_M_paid_61 : decode c_M_paid 61 = .ok (.laload, 1) := by decide +kernel
theorem d_M_paid_62 : decode c_M_paid 62 = .ok (.lreturn, 1) := by decide +kernel
theorem d_M_total_0 : decode c_M_total 0 = .ok (.aload_n 0, 1) := by decide +kernel
theorem d_M_total_1 : decode c_M_total 1 = .ok (.aload_n 0, 1) := by decide +kernel
theorem d_M_total_2 : decode c_M_total 2 = .ok (.iload_n 1, 1) := by decide +kernel
theorem d_M_total_3 : decode c_M_total 3 = .ok (.invokevirtual 67, 3) := by decide +kernel
theorem d_M_total_6 : decode c_M_total 6 = .ok (.ifCond .eq 7, 3) := by decide +kernel
theorem d_M_total_9 : decode c_M_total 9 = .ok (.iconst 1, 1) := by decide +kernel
theorem d_M_total_10 : decode c_M_total 10 = .ok (.goto 4, 3) := by decide +kernel
theorem d_M_total_13 : decode c_M_total 13 = .ok (.iconst 0, 1) := by decide +kernel
theorem d_M_total_14 : decode c_M_total 14 = .ok (.putfield 60, 3) := by decide +kernel
theorem d_M_total_17 : decode c_M_total 17 = .ok (.aload_n 0, 1) := by decide +kernel
theorem d_M_total_18 : decode c_M_total 18 = .ok (.getfield 60, 3) := by decide +kernel
theorem d_M_total_21 : decode c_M_total 21 = .ok (.ifCond .le 7, 3) := by decide +kernel
theorem d_M_total_24 : decode c_M_total 24 = .ok (.lconst 0, 1) := by decide +kernel
theorem d_M_total_25 : decode c_M_total 25 = .ok (.goto 9, 3) := by decide +kernel
theorem d_M_total_28 : decode c_M_total 28 = .ok (.aload_n 0, 1) := by decide +kernel
theorem d_M_total_29 : decode c_M_total 29 = .ok (.getfield 54, 3) := by decide +kernel
theorem d_M_total_32 : decode c_M_total 32 = .ok (.iload_n 1, 1) := by decide +kernel
theorem d_M_total_33 : decode c_M_total 33 = .ok (.laload, 1) := by decide +kernel
theorem d_M_total_34 : decode c_M_total 34 = .ok (.lreturn, 1) := by decide +kernel
theorem d_M_got_0 : decode c_M_got 0 = .ok (.aload_n 0, 1) := by decide +kernel
theorem d_M_got_1 : decode c_M_got 1 = .ok (.iload_n 1, 1) := by decide +kernel
theorem d_M_got_2 : decode c_M_got 2 = .ok (.iconst (-1), 1) := by decide +kernel
theorem d_M_got_3 : decode c_M_got 3 = .ok (.if_icmp .eq 15, 3) := by decide +kernel
theorem d_M_got_6 : decode c_M_got 6 = .ok (.aload_n 0, 1) := by decide +kernel
theorem d_M_got_7 : decode c_M_got 7 = .ok (.iload_n 1, 1) := by decide +kernel
theorem d_M_got_8 : decode c_M_got 8 = .ok (.invokevirtual 67, 3) := by decide +kernel
theorem d_M_got_11 : decode c_M_got 11 = .ok (.ifCond .eq 7, 3) := by decide +kernel
theorem d_M_got_14 : decode c_M_got 14 = .ok (.iconst 1, 1) := by decide +kernel
theorem d_M_got_15 : decode c_M_got 15 = .ok (.goto 4, 3) := by decide +kernel
theorem d_M_got_18 : decode c_M_got 18 = .ok (.iconst 0, 1) := by decide +kernel
theorem d_M_got_19 : decode c_M_got 19 = .ok (.putfield 60, 3) := by decide +kernel
theorem d_M_got_22 : decode c_M_got 22 = .ok (.aload_n 0, 1) := by decide +kernel
theorem d_M_got_23 : decode c_M_got 23 = .ok (.getfield 60, 3) := by decide +kernel
theorem d_M_got_26 : decode c_M_got 26 = .ok (.ifCond .le 7, 3) := by decide +kernel
theorem d_M_got_29 : decode c_M_got 29 = .ok (.lconst 0, 1) := by decide +kernel
theorem d_M_got_30 : decode c_M_got 30 = .ok (.goto 19, 3) := by decide +kernel
theorem d_M_got_33 : decode c_M_got 33 = .ok (.aload_n 0, 1) := by decide +kernel
theorem d_M_got_34 : decode c_M_got 34 = .ok (.getfield 57, 3) := by decide +kernel
theorem d_M_got_37 : decode c_M_got 37 = .ok (.iload_n 1, 1) := by decide +kernel
theorem d_M_got_38 : decode c_M_got 38 = .ok (.iconst (-1), 1) := by decide +kernel
theorem d_M_got_39 : decode c_M_got 39 = .ok (.if_icmp .ne 8, 3) := by decide +kernel
theorem d_M_got_42 : decode c_M_got 42 = .ok (.bipush 20, 2) := by decide +kernel
theorem d_M_got_44 : decode c_M_got 44 = .ok (.goto 4, 3) := by decide +kernel
theorem d_M_got_47 : decode c_M_got 47 = .ok (.iload_n 1, 1) := by decide +kernel
theorem d_M_got_48 : decode c_M_got 48 = .ok (.laload, 1) := by decide +kernel
theorem d_M_got_49 : decode c_M_got 49 = .ok (.lreturn, 1) := by decide +kernel
