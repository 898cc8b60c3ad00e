theorem d_M_init_0 : decode b_M_init 0 = .ok (.aload_n 0, 1) := by decide +kernel
theorem d_M_init_1 : decode b_M_init 1 = .ok (.invokespecial 1, 3) := by decide +kernel
theorem d_M_init_4 : decode b_M_init 4 = .ok (.aload_n 0, 1) := by decide +kernel
theorem d_M_init_5 : decode b_M_init 5 = .ok (.bipush 100, 2) := by decide +kernel
theorem d_M_init_7 : decode b_M_init 7 = .ok (.newarray .int, 2) := by decide +kernel
theorem d_M_init_9 : decode b_M_init 9 = .ok (.putfield 7, 3) := by decide +kernel
theorem d_M_init_12 : decode b_M_init 12 = .ok (.aload_n 0, 1) := by decide +kernel
theorem d_M_init_13 : decode b_M_init 13 = .ok (.bipush 100, 2) := by decide +kernel
theorem d_M_init_15 : decode b_M_init 15 = .ok (.newarray .boolean, 2) := by decide +kernel
theorem d_M_init_17 : decode b_M_init 17 = .ok (.putfield 13, 3) := by decide +kernel
theorem d_M_init_20 : decode b_M_init 20 = .ok (.aload_n 0, 1) := by decide +kernel
theorem d_M_init_21 : decode b_M_init 21 = .ok (.bipush 10, 2) := by decide +kernel
theorem d_M_init_23 : decode b_M_init 23 = .ok (.newarray .int, 2) := by decide +kernel
theorem d_M_init_25 : decode b_M_init 25 = .ok (.putfield 17, 3) := by decide +kernel
theorem d_M_init_28 : decode b_M_init 28 = .ok (.aload_n 0, 1) := by decide +kernel
theorem d_M_init_29 : decode b_M_init 29 = .ok (.iload_n 1, 1) := by decide +kernel
theorem d_M_init_30 : decode b_M_init 30 = .ok (.i2l, 1) := by decide +kernel
theorem d_M_init_31 : decode b_M_init 31 = .ok (.putfield 20, 3) := by decide +kernel
theorem d_M_init_34 : decode b_M_init 34 = .ok (.aload_n 0, 1) := by decide +kernel
theorem d_M_init_35 : decode b_M_init 35 = .ok (.getfield 17, 3) := by decide +kernel
theorem d_M_init_38 : decode b_M_init 38 = .ok (.iconst 0, 1) := by decide +kernel
theorem d_M_init_39 : decode b_M_init 39 = .ok (.sipush 31599, 3) := by decide +kernel
theorem d_M_init_42 : decode b_M_init 42 = .ok (.iastore, 1) := by decide +kernel
theorem d_M_init_43 : decode b_M_init 43 = .ok (.aload_n 0, 1) := by decide +kernel
theorem d_M_init_44 : decode b_M_init 44 = .ok (.getfield 17, 3) := by decide +kernel
theorem d_M_init_47 : decode b_M_init 47 = .ok (.iconst 1, 1) := by decide +kernel
theorem d_M_init_48 : decode b_M_init 48 = .ok (.sipush 11415, 3) := by decide +kernel
theorem d_M_init_51 : decode b_M_init 51 = .ok (.iastore, 1) := by decide +kernel
theorem d_M_init_52 : decode b_M_init 52 = .ok (.aload_n 0, 1) := by decide +kernel
theorem d_M_init_53 : decode b_M_init 53 = .ok (.getfield 17, 3) := by decide +kernel
theorem d_M_init_56 : decode b_M_init 56 = .ok (.iconst 2, 1) := by decide +kernel
theorem d_M_init_57 : decode b_M_init 57 = .ok (.sipush 29671, 3) := by decide +kernel
theorem d_M_init_60 : decode b_M_init 60 = .ok (.iastore, 1) := by decide +kernel
theorem d_M_init_61 : decode b_M_init 61 = .ok (.aload_n 0, 1) := by decide +kernel
theorem d_M_init_62 : decode b_M_init 62 = .ok (.getfield 17, 3) := by decide +kernel
theorem d_M_init_65 : decode b_M_init 65 = .ok (.iconst 3, 1) := by decide +kernel
theorem d_M_init_66 : decode b_M_init 66 = .ok (.sipush 29647, 3) := by decide +kernel
theorem d_M_init_69 : decode b_M_init 69 = .ok (.iastore, 1) := by decide +kernel
theorem d_M_init_70 : decode b_M_init 70 = .ok (.aload_n 0, 1) := by decide +kernel
theorem d_M_init_71 : decode b_M_init 71 = .ok (.getfield 17, 3) := by decide +kernel
theorem d_M_init_74 : decode b_M_init 74 = .ok (.iconst 4, 1) := by decide +kernel
theorem d_M_init_75 : decode b_M_init 75 = .ok (.sipush 23497, 3) := by decide +kernel
theorem d_M_init_78 : decode b_M_init 78 = .ok (.iastore, 1) := by decide +kernel
theorem d_M_init_79 : decode b_M_init 79 = .ok (.aload_n 0, 1) := by decide +kernel
theorem d_M_init_80 : decode b_M_init 80 = .ok (.getfield 17, 3) := by decide +kernel
theorem d_M_init_83 : decode b_M_init 83 = .ok (.iconst 5, 1) := by decide +kernel
theorem d_M_init_84 : decode b_M_init 84 = .ok (.sipush 31183, 3) := by decide +kernel
theorem d_M_init_87 : decode b_M_init 87 = .ok (.iastore, 1) := by decide +kernel
theorem d_M_init_88 : decode b_M_init 88 = .ok (.aload_n 0, 1) := by decide +kernel
theorem d_M_init_89 : decode b_M_init 89 = .ok (.getfield 17, 3) := by decide +kernel
theorem d_M_init_92 : decode b_M_init 92 = .ok (.bipush 6, 2) := by decide +kernel
theorem d_M_init_94 : decode b_M_init 94 = .ok (.sipush 31215, 3) := by decide +kernel
theorem d_M_init_97 : decode b_M_init 97 = .ok (.iastore, 1) := by decide +kernel
theorem d_M_init_98 : decode b_M_init 98 = .ok (.aload_n 0, 1) := by decide +kernel
theorem d_M_init_99 : decode b_M_init 99 = .ok (.getfield 17, 3) := by decide +kernel
theorem d_M_init_102 : decode b_M_init 102 = .ok (.bipush 7, 2) := by decide +kernel
theorem d_M_init_104 : decode b_M_init 104 = .ok (.sipush 29257, 3) := by decide +kernel
theorem d_M_init_107 : decode b_M_init 107 = .ok (.iastore, 1) := by decide +kernel
theorem d_M_init_108 : decode b_M_init 108 = .ok (.aload_n 0, 1) := by decide +kernel
theorem d_M_init_109 : decode b_M_init 109 = .ok (.getfield 17, 3) := by decide +kernel
theorem d_M_init_112 : decode b_M_init 112 = .ok (.bipush 8, 2) := by decide +kernel
theorem d_M_init_114 : decode b_M_init 114 = .ok (.sipush 31727, 3) := by decide +kernel
theorem d_M_init_117 : decode b_M_init 117 = .ok (.iastore, 1) := by decide +kernel
theorem d_M_init_118 : decode b_M_init 118 = .ok (.aload_n 0, 1) := by decide +kernel
theorem d_M_init_119 : decode b_M_init 119 = .ok (.getfield 17, 3) := by decide +kernel
theorem d_M_init_122 : decode b_M_init 122 = .ok (.bipush 9, 2) := by decide +kernel
theorem d_M_init_124 : decode b_M_init 124 = .ok (.sipush 31695, 3) := by decide +kernel
theorem d_M_init_127 : decode b_M_init 127 = .ok (.iastore, 1) := by decide +kernel
theorem d_M_init_128 : decode b_M_init 128 = .ok (.return_, 1) := by decide +kernel
theorem d_M_in_0 : decode b_M_in 0 = .ok (.iload_n 0, 1) := by decide +kernel
theorem d_M_in_1 : decode b_M_in 1 = .ok (.iload_n 1, 1) := by decide +kernel
theorem d_M_in_2 : decode b_M_in 2 = .ok (.if_icmp .lt 12, 3) := by decide +kernel
theorem d_M_in_5 : decode b_M_in 5 = .ok (.iload_n 0, 1) := by decide +kernel
theorem d_M_in_6 : decode b_M_in 6 = .ok (.iload_n 2, 1) := by decide +kernel
theorem d_M_in_7 : decode b_M_in 7 = .ok (.if_icmp .gt 7, 3) := by decide +kernel
theorem d_M_in_10 : decode b_M_in 10 = .ok (.iconst 1, 1) := by decide +kernel
theorem d_M_in_11 : decode b_M_in 11 = .ok (.goto 4, 3) := by decide +kernel
theorem d_M_in_14 : decode b_M_in 14 = .ok (.iconst 0, 1) := by decide +kernel
theorem d_M_in_15 : decode b_M_in 15 = .ok (.ireturn, 1) := by decide +kernel
theorem d_M_number_0 : decode b_M_number 0 = .ok (.lload_n 0, 1) := by decide +kernel
theorem d_M_number_1 : decode b_M_number 1 = .ok (.lconst 1, 1) := by decide +kernel
theorem d_M_number_2 : decode b_M_number 2 = .ok (.iload_n 3, 1) := by decide +kernel
theorem d_M_number_3 : decode b_M_number 3 = .ok (.i2l, 1) := by decide +kernel
theorem d_M_number_4 : decode b_M_number 4 = .ok (.ladd, 1) := by decide +kernel
theorem d_M_number_5 : decode b_M_number 5 = .ok (.ldc2_w 28, 3) := by decide +kernel
theorem d_M_number_8 : decode b_M_number 8 = .ok (.iload_n 2, 1) := by decide +kernel
theorem d_M_number_9 : decode b_M_number 9 = .ok (.i2l, 1) := by decide +kernel
theorem d_M_number_10 : decode b_M_number 10 = .ok (.lmul, 1) := by decide +kernel
theorem d_M_number_11 : decode b_M_number 11 = .ok (.ladd, 1) := by decide +kernel
theorem d_M_number_12 : decode b_M_number 12 = .ok (.ldc2_w 30, 3) := by decide +kernel
theorem d_M_number_15 : decode b_M_number 15 = .ok (.lmul, 1) := by decide +kernel
theorem d_M_number_16 : decode b_M_number 16 = .ok (.ladd, 1) := by decide +kernel
theorem d_M_number_17 : decode b_M_number 17 = .ok (.lstore 4, 2) := by decide +kernel
theorem d_M_number_19 : decode b_M_number 19 = .ok (.lload 4, 2) := by decide +kernel
theorem d_M_number_21 : decode b_M_number 21 = .ok (.lload 4, 2) := by decide +kernel
theorem d_M_number_23 : decode b_M_number 23 = .ok (.bipush 30, 2) := by decide +kernel
theorem d_M_number_25 : decode b_M_number 25 = .ok (.lushr, 1) := by decide +kernel
theorem d_M_number_26 : decode b_M_number 26 = .ok (.lxor, 1) := by decide +kernel
theorem d_M_number_27 : decode b_M_number 27 = .ok (.ldc2_w 32, 3) := by decide +kernel
theorem d_M_number_30 : decode b_M_number 30 = .ok (.lmul, 1) := by decide +kernel
theorem d_M_number_31 : decode b_M_number 31 = .ok (.lstore 4, 2) := by decide +kernel
theorem d_M_number_33 : decode b_M_number 33 = .ok (.lload 4, 2) := by decide +kernel
theorem d_M_number_35 : decode b_M_number 35 = .ok (.lload 4, 2) := by decide +kernel
theorem d_M_number_37 : decode b_M_number 37 = .ok (.bipush 27, 2) := by decide +kernel
theorem d_M_number_39 : decode b_M_number 39 = .ok (.lushr, 1) := by decide +kernel
theorem d_M_number_40 : decode b_M_number 40 = .ok (.lxor, 1) := by decide +kernel
theorem d_M_number_41 : decode b_M_number 41 = .ok (.ldc2_w 34, 3) := by decide +kernel
theorem d_M_number_44 : decode b_M_number 44 = .ok (.lmul, 1) := by decide +kernel
theorem d_M_number_45 : decode b_M_number 45 = .ok (.lstore 4, 2) := by decide +kernel
theorem d_M_number_47 : decode b_M_number 47 = .ok (.lload 4, 2) := by decide +kernel
theorem d_M_number_49 : decode b_M_number 49 = .ok (.lload 4, 2) := by decide +kernel
theorem d_M_number_51 : decode b_M_number 51 = .ok (.bipush 31, 2) := by decide +kernel
theorem d_M_number_53 : decode b_M_number 53 = .ok (.lushr, 1) := by decide +kernel
theorem d_M_number_54 : decode b_M_number 54 = .ok (.lxor, 1) := by decide +kernel
theorem d_M_number_55 : decode b_M_number 55 = .ok (.lreturn, 1) := by decide +kernel
theorem d_M_rest_0 : decode b_M_rest 0 = .ok (.lload_n 0, 1) := by decide +kernel
theorem d_M_rest_1 : decode b_M_rest 1 = .ok (.iconst 1, 1) := by decide +kernel
theorem d_M_rest_2 : decode b_M_rest 2 = .ok (.lushr, 1) := by decide +kernel
theorem d_M_rest_3 : decode b_M_rest 3 = .ok (.lstore_n 3, 1) := by decide +kernel
theorem d_M_rest_4 : decode b_M_rest 4 = .ok (.lload_n 3, 1) := by decide +kernel
theorem d_M_rest_5 : decode b_M_rest 5 = .ok (.iload_n 2, 1) := by decide +kernel
theorem d_M_rest_6 : decode b_M_rest 6 = .ok (.i2l, 1) := by decide +kernel
theorem d_M_rest_7 : decode b_M_rest 7 = .ok (.lrem, 1) := by decide +kernel
theorem d_M_rest_8 : decode b_M_rest 8 = .ok (.ldc2_w 36, 3) := by decide +kernel
theorem d_M_rest_11 : decode b_M_rest 11 = .ok (.lmul, 1) := by decide +kernel
theorem d_M_rest_12 : decode b_M_rest 12 = .ok (.lload_n 0, 1) := by decide +kernel
theorem d_M_rest_13 : decode b_M_rest 13 = .ok (.lconst 1, 1) := by decide +kernel
theorem d_M_rest_14 : decode b_M_rest 14 = .ok (.land, 1) := by decide +kernel
theorem d_M_rest_15 : decode b_M_rest 15 = .ok (.ladd, 1) := by decide +kernel
theorem d_M_rest_16 : decode b_M_rest 16 = .ok (.iload_n 2, 1) := by decide +kernel
theorem d_M_rest_17 : decode b_M_rest 17 = .ok (.i2l, 1) := by decide +kernel
theorem d_M_rest_18 : decode b_M_rest 18 = .ok (.lrem, 1) := by decide +kernel
theorem d_M_rest_19 : decode b_M_rest 19 = .ok (.l2i, 1) := by decide +kernel
theorem d_M_rest_20 : decode b_M_rest 20 = .ok (.ireturn, 1) := by decide +kernel
theorem d_M_isLess_0 : decode b_M_isLess 0 = .ok (.lload_n 0, 1) := by decide +kernel
theorem d_M_isLess_1 : decode b_M_isLess 1 = .ok (.ldc2_w 38, 3) := by decide +kernel
theorem d_M_isLess_4 : decode b_M_isLess 4 = .ok (.lxor, 1) := by decide +kernel
theorem d_M_isLess_5 : decode b_M_isLess 5 = .ok (.lload_n 2, 1) := by decide +kernel
theorem d_M_isLess_6 : decode b_M_isLess 6 = .ok (.ldc2_w 38, 3) := by decide +kernel
theorem d_M_isLess_9 : decode b_M_isLess 9 = .ok (.lxor, 1) := by decide +kernel
theorem d_M_isLess_10 : decode b_M_isLess 10 = .ok (.lcmp, 1) := by decide +kernel
theorem d_M_isLess_11 : decode b_M_isLess 11 = .ok (.ifCond .ge 7, 3) := by decide +kernel
theorem d_M_isLess_14 : decode b_M_isLess 14 = .ok (.iconst 1, 1) := by decide +kernel
theorem d_M_isLess_15 : decode b_M_isLess 15 = .ok (.goto 4, 3) := by decide +kernel
theorem d_M_isLess_18 : decode b_M_isLess 18 = .ok (.iconst 0, 1) := by decide +kernel
theorem d_M_isLess_19 : decode b_M_isLess 19 = .ok (.ireturn, 1) := by decide +kernel
theorem d_M_fact_0 : decode b_M_fact 0 = .ok (.iload_n 2, 1) := by decide +kernel
theorem d_M_fact_1 : decode b_M_fact 1 = .ok (.iconst 1, 1) := by decide +kernel
theorem d_M_fact_2 : decode b_M_fact 2 = .ok (.if_icmp .ne 12, 3) := by decide +kernel
theorem d_M_fact_5 : decode b_M_fact 5 = .ok (.lload_n 0, 1) := by decide +kernel
theorem d_M_fact_6 : decode b_M_fact 6 = .ok (.bipush 100, 2) := by decide +kernel
theorem d_M_fact_8 : decode b_M_fact 8 = .ok (.invokestatic 40, 3) := by decide +kernel
theorem d_M_fact_11 : decode b_M_fact 11 = .ok (.goto 46, 3) := by decide +kernel
theorem d_M_fact_14 : decode b_M_fact 14 = .ok (.iload_n 2, 1) := by decide +kernel
theorem d_M_fact_15 : decode b_M_fact 15 = .ok (.iconst 2, 1) := by decide +kernel
theorem d_M_fact_16 : decode b_M_fact 16 = .ok (.if_icmp .ne 16, 3) := by decide +kernel
theorem d_M_fact_19 : decode b_M_fact 19 = .ok (.lload_n 0, 1) := by decide +kernel
theorem d_M_fact_20 : decode b_M_fact 20 = .ok (.bipush 8, 2) := by decide +kernel
theorem d_M_fact_22 : decode b_M_fact 22 = .ok (.lushr, 1) := by decide +kernel
theorem d_M_fact_23 : decode b_M_fact 23 = .ok (.sipush 1000, 3) := by decide +kernel
theorem d_M_fact_26 : decode b_M_fact 26 = .ok (.invokestatic 40, 3) := by decide +kernel
theorem d_M_fact_29 : decode b_M_fact 29 = .ok (.goto 28, 3) := by decide +kernel
theorem d_M_fact_32 : decode b_M_fact 32 = .ok (.iload_n 2, 1) := by decide +kernel
theorem d_M_fact_33 : decode b_M_fact 33 = .ok (.iconst 3, 1) := by decide +kernel
theorem d_M_fact_34 : decode b_M_fact 34 = .ok (.if_icmp .ne 15, 3) := by decide +kernel
theorem d_M_fact_37 : decode b_M_fact 37 = .ok (.lload_n 0, 1) := by decide +kernel
theorem d_M_fact_38 : decode b_M_fact 38 = .ok (.bipush 24, 2) := by decide +kernel
theorem d_M_fact_40 : decode b_M_fact 40 = .ok (.lushr, 1) := by decide +kernel
theorem d_M_fact_41 : decode b_M_fact 41 = .ok (.bipush 24, 2) := by decide +kernel
theorem d_M_fact_43 : decode b_M_fact 43 = .ok (.invokestatic 40, 3) := by decide +kernel
theorem d_M_fact_46 : decode b_M_fact 46 = .ok (.goto 11, 3) := by decide +kernel
theorem d_M_fact_49 : decode b_M_fact 49 = .ok (.lload_n 0, 1) := by decide +kernel
theorem d_M_fact_50 : decode b_M_fact 50 = .ok (.bipush 40, 2) := by decide +kernel
theorem d_M_fact_52 : decode b_M_fact 52 = .ok (.lushr, 1) := by decide +kernel
theorem d_M_fact_53 : decode b_M_fact 53 = .ok (.iconst 2, 1) := by decide +kernel
theorem d_M_fact_54 : decode b_M_fact 54 = .ok (.invokestatic 40, 3) := by decide +kernel
theorem d_M_fact_57 : decode b_M_fact 57 = .ok (.ireturn, 1) := by decide +kernel
theorem d_M_hasFaults_0 : decode b_M_hasFaults 0 = .ok (.iconst 0, 1) := by decide +kernel
theorem d_M_hasFaults_1 : decode b_M_hasFaults 1 = .ok (.istore 5, 2) := by decide +kernel
theorem d_M_hasFaults_3 : decode b_M_hasFaults 3 = .ok (.lload_n 0, 1) := by decide +kernel
theorem d_M_hasFaults_4 : decode b_M_hasFaults 4 = .ok (.iload_n 2, 1) := by decide +kernel
theorem d_M_hasFaults_5 : decode b_M_hasFaults 5 = .ok (.iload 4, 2) := by decide +kernel
theorem d_M_hasFaults_7 : decode b_M_hasFaults 7 = .ok (.invokestatic 44, 3) := by decide +kernel
theorem d_M_hasFaults_10 : decode b_M_hasFaults 10 = .ok (.lstore 6, 2) := by decide +kernel
theorem d_M_hasFaults_12 : decode b_M_hasFaults 12 = .ok (.iconst 0, 1) := by decide +kernel
theorem d_M_hasFaults_13 : decode b_M_hasFaults 13 = .ok (.istore 8, 2) := by decide +kernel
theorem d_M_hasFaults_15 : decode b_M_hasFaults 15 = .ok (.iload 8, 2) := by decide +kernel
theorem d_M_hasFaults_17 : decode b_M_hasFaults 17 = .ok (.iload_n 3, 1) := by decide +kernel
theorem d_M_hasFaults_18 : decode b_M_hasFaults 18 = .ok (.if_icmp .ge 54, 3) := by decide +kernel
theorem d_M_hasFaults_21 : decode b_M_hasFaults 21 = .ok (.lload_n 0, 1) := by decide +kernel
theorem d_M_hasFaults_22 : decode b_M_hasFaults 22 = .ok (.iload_n 2, 1) := by decide +kernel
theorem d_M_hasFaults_23 : decode b_M_hasFaults 23 = .ok (.iload 8, 2) := by decide +kernel
theorem d_M_hasFaults_25 : decode b_M_hasFaults 25 = .ok (.invokestatic 44, 3) := by decide +kernel
theorem d_M_hasFaults_28 : decode b_M_hasFaults 28 = .ok (.lstore 9, 2) := by decide +kernel
theorem d_M_hasFaults_30 : decode b_M_hasFaults 30 = .ok (.lload 6, 2) := by decide +kernel
theorem d_M_hasFaults_32 : decode b_M_hasFaults 32 = .ok (.lload 9, 2) := by decide +kernel
theorem d_M_hasFaults_34 : decode b_M_hasFaults 34 = .ok (.invokestatic 48, 3) := by decide +kernel
theorem d_M_hasFaults_37 : decode b_M_hasFaults 37 = .ok (.ifCond .ne 18, 3) := by decide +kernel
theorem d_M_hasFaults_40 : decode b_M_hasFaults 40 = .ok (.lload 6, 2) := by decide +kernel
theorem d_M_hasFaults_42 : decode b_M_hasFaults 42 = .ok (.lload 9, 2) := by decide +kernel
theorem d_M_hasFaults_44 : decode b_M_hasFaults 44 = .ok (.lcmp, 1) := by decide +kernel
theorem d_M_hasFaults_45 : decode b_M_hasFaults 45 = .ok (.ifCond .ne 17, 3) := by decide +kernel
theorem d_M_hasFaults_48 : decode b_M_hasFaults 48 = .ok (.iload 8, 2) := by decide +kernel
theorem d_M_hasFaults_50 : decode b_M_hasFaults 50 = .ok (.iload 4, 2) := by decide +kernel
theorem d_M_hasFaults_52 : decode b_M_hasFaults 52 = .ok (.if_icmp .le 10, 3) := by decide +kernel
theorem d_M_hasFaults_55 : decode b_M_hasFaults 55 = .ok (.iload 5, 2) := by decide +kernel
theorem d_M_hasFaults_57 : decode b_M_hasFaults 57 = .ok (.iconst 1, 1) := by decide +kernel
theorem d_M_hasFaults_58 : decode b_M_hasFaults 58 = .ok (.iadd, 1) := by decide +kernel
theorem d_M_hasFaults_59 : decode b_M_hasFaults 59 = .ok (.goto 5, 3) := by decide +kernel
theorem d_M_hasFaults_62 : decode b_M_hasFaults 62 = .ok (.iload 5, 2) := by decide +kernel
theorem d_M_hasFaults_64 : decode b_M_hasFaults 64 = .ok (.istore 5, 2) := by decide +kernel
theorem d_M_hasFaults_66 : decode b_M_hasFaults 66 = .ok (.iinc 8 1, 3) := by decide +kernel
theorem d_M_hasFaults_69 : decode b_M_hasFaults 69 = .ok (.goto (-54), 3) := by decide +kernel
theorem d_M_hasFaults_72 : decode b_M_hasFaults 72 = .ok (.iload_n 2, 1) := by decide +kernel
theorem d_M_hasFaults_73 : decode b_M_hasFaults 73 = .ok (.iconst 3, 1) := by decide +kernel
theorem d_M_hasFaults_74 : decode b_M_hasFaults 74 = .ok (.if_icmp .ne 15, 3) := by decide +kernel
theorem d_M_hasFaults_77 : decode b_M_hasFaults 77 = .ok (.iload 5, 2) := by decide +kernel
theorem d_M_hasFaults_79 : decode b_M_hasFaults 79 = .ok (.iload_n 3, 1) := by decide +kernel
theorem d_M_hasFaults_80 : decode b_M_hasFaults 80 = .ok (.iconst 2, 1) := by decide +kernel
theorem d_M_hasFaults_81 : decode b_M_hasFaults 81 = .ok (.idiv, 1) := by decide +kernel
theorem d_M_hasFaults_82 : decode b_M_hasFaults 82 = .ok (.if_icmp .ge 7, 3) := by decide +kernel
theorem d_M_hasFaults_85 : decode b_M_hasFaults 85 = .ok (.iconst 1, 1) := by decide +kernel
theorem d_M_hasFaults_86 : decode b_M_hasFaults 86 = .ok (.goto 4, 3) := by decide +kernel
theorem d_M_hasFaults_89 : decode b_M_hasFaults 89 = .ok (.iconst 0, 1) := by decide +kernel
theorem d_M_hasFaults_90 : decode b_M_hasFaults 90 = .ok (.ireturn, 1) := by decide +kernel
theorem d_M_seed_0 : decode b_M_seed 0 = .ok (.aload_n 0, 1) := by decide +kernel
theorem d_M_seed_1 : decode b_M_seed 1 = .ok (.iconst 0, 1) := by decide +kernel
theorem d_M_seed_2 : decode b_M_seed 2 = .ok (.putfield 24, 3) := by decide +kernel
theorem d_M_seed_5 : decode b_M_seed 5 = .ok (.aload_n 0, 1) := by decide +kernel
theorem d_M_seed_6 : decode b_M_seed 6 = .ok (.getfield 20, 3) := by decide +kernel
theorem d_M_seed_9 : decode b_M_seed 9 = .ok (.lstore_n 3, 1) := by decide +kernel
theorem d_M_seed_10 : decode b_M_seed 10 = .ok (.aload_n 0, 1) := by decide +kernel
theorem d_M_seed_11 : decode b_M_seed 11 = .ok (.lload_n 1, 1) := by decide +kernel
theorem d_M_seed_12 : decode b_M_seed 12 = .ok (.putfield 20, 3) := by decide +kernel
theorem d_M_seed_15 : decode b_M_seed 15 = .ok (.lload_n 3, 1) := by decide +kernel
theorem d_M_seed_16 : decode b_M_seed 16 = .ok (.lreturn, 1) := by decide +kernel
theorem d_M_draw_0 : decode b_M_draw 0 = .ok (.aload_n 0, 1) := by decide +kernel
theorem d_M_draw_1 : decode b_M_draw 1 = .ok (.iconst 0, 1) := by decide +kernel
theorem d_M_draw_2 : decode b_M_draw 2 = .ok (.putfield 24, 3) := by decide +kernel
theorem d_M_draw_5 : decode b_M_draw 5 = .ok (.iload_n 1, 1) := by decide +kernel
theorem d_M_draw_6 : decode b_M_draw 6 = .ok (.iconst 0, 1) := by decide +kernel
theorem d_M_draw_7 : decode b_M_draw 7 = .ok (.iconst 4, 1) := by decide +kernel
theorem d_M_draw_8 : decode b_M_draw 8 = .ok (.invokestatic 52, 3) := by decide +kernel
theorem d_M_draw_11 : decode b_M_draw 11 = .ok (.ifCond .eq 13, 3) := by decide +kernel
theorem d_M_draw_14 : decode b_M_draw 14 = .ok (.iload_n 2, 1) := by decide +kernel
theorem d_M_draw_15 : decode b_M_draw 15 = .ok (.iconst 0, 1) := by decide +kernel
theorem d_M_draw_16 : decode b_M_draw 16 = .ok (.bipush 15, 2) := by decide +kernel
theorem d_M_draw_18 : decode b_M_draw 18 = .ok (.invokestatic 52, 3) := by decide +kernel
theorem d_M_draw_21 : decode b_M_draw 21 = .ok (.ifCond .ne 6, 3) := by decide +kernel
theorem d_M_draw_24 : decode b_M_draw 24 = .ok (.bipush (-12), 2) := by decide +kernel
theorem d_M_draw_26 : decode b_M_draw 26 = .ok (.ireturn, 1) := by decide +kernel
theorem d_M_draw_27 : decode b_M_draw 27 = .ok (.aload_n 0, 1) := by decide +kernel
theorem d_M_draw_28 : decode b_M_draw 28 = .ok (.aload_n 0, 1) := by decide +kernel
theorem d_M_draw_29 : decode b_M_draw 29 = .ok (.getfield 20, 3) := by decide +kernel
theorem d_M_draw_32 : decode b_M_draw 32 = .ok (.putfield 56, 3) := by decide +kernel
theorem d_M_draw_35 : decode b_M_draw 35 = .ok (.aload_n 0, 1) := by decide +kernel
theorem d_M_draw_36 : decode b_M_draw 36 = .ok (.iload_n 1, 1) := by decide +kernel
theorem d_M_draw_37 : decode b_M_draw 37 = .ok (.putfield 59, 3) := by decide +kernel
theorem d_M_draw_40 : decode b_M_draw 40 = .ok (.aload_n 0, 1) := by decide +kernel
theorem d_M_draw_41 : decode b_M_draw 41 = .ok (.iload_n 2, 1) := by decide +kernel
theorem d_M_draw_42 : decode b_M_draw 42 = .ok (.iconst 1, 1) := by decide +kernel
theorem d_M_draw_43 : decode b_M_draw 43 = .ok (.iadd, 1) := by decide +kernel
theorem d_M_draw_44 : decode b_M_draw 44 = .ok (.putfield 62, 3) := by decide +kernel
theorem d_M_draw_47 : decode b_M_draw 47 = .ok (.aload_n 0, 1) := by decide +kernel
theorem d_M_draw_48 : decode b_M_draw 48 = .ok (.iconst 1, 1) := by decide +kernel
theorem d_M_draw_49 : decode b_M_draw 49 = .ok (.aload_n 0, 1) := by decide +kernel
theorem d_M_draw_50 : decode b_M_draw 50 = .ok (.getfield 62, 3) := by decide +kernel
theorem d_M_draw_53 : decode b_M_draw 53 = .ok (.ishl, 1) := by decide +kernel
theorem d_M_draw_54 : decode b_M_draw 54 = .ok (.iconst 1, 1) := by decide +kernel
theorem d_M_draw_55 : decode b_M_draw 55 = .ok (.isub, 1) := by decide +kernel
theorem d_M_draw_56 : decode b_M_draw 56 = .ok (.putfield 65, 3) := by decide +kernel
theorem d_M_draw_59 : decode b_M_draw 59 = .ok (.aload_n 0, 1) := by decide +kernel
theorem d_M_draw_60 : decode b_M_draw 60 = .ok (.iconst 0, 1) := by decide +kernel
theorem d_M_draw_61 : decode b_M_draw 61 = .ok (.putfield 68, 3) := by decide +kernel
theorem d_M_draw_64 : decode b_M_draw 64 = .ok (.aload_n 0, 1) := by decide +kernel
theorem d_M_draw_65 : decode b_M_draw 65 = .ok (.getfield 62, 3) := by decide +kernel
theorem d_M_draw_68 : decode b_M_draw 68 = .ok (.ireturn, 1) := by decide +kernel
theorem d_M_part_0 : decode b_M_part 0 = .ok (.aload_n 0, 1) := by decide +kernel
theorem d_M_part_1 : decode b_M_part 1 = .ok (.iconst 0, 1) := by decide +kernel
theorem d_M_part_2 : decode b_M_part 2 = .ok (.putfield 24, 3) := by decide +kernel
theorem d_M_part_5 : decode b_M_part 5 = .ok (.iload_n 1, 1) := by decide +kernel
theorem d_M_part_6 : decode b_M_part 6 = .ok (.iconst 0, 1) := by decide +kernel
theorem d_M_part_7 : decode b_M_part 7 = .ok (.aload_n 0, 1) := by decide +kernel
theorem d_M_part_8 : decode b_M_part 8 = .ok (.getfield 62, 3) := by decide +kernel
theorem d_M_part_11 : decode b_M_part 11 = .ok (.iconst 1, 1) := by decide +kernel
theorem d_M_part_12 : decode b_M_part 12 = .ok (.isub, 1) := by decide +kernel
theorem d_M_part_13 : decode b_M_part 13 = .ok (.invokestatic 52, 3) := by decide +kernel
theorem d_M_part_16 : decode b_M_part 16 = .ok (.ifCond .ne 5, 3) := by decide +kernel
theorem d_M_part_19 : decode b_M_part 19 = .ok (.iconst (-1), 1) := by decide +kernel
theorem d_M_part_20 : decode b_M_part 20 = .ok (.ireturn, 1) := by decide +kernel
theorem d_M_part_21 : decode b_M_part 21 = .ok (.iload_n 2, 1) := by decide +kernel
theorem d_M_part_22 : decode b_M_part 22 = .ok (.iconst 0, 1) := by decide +kernel
theorem d_M_part_23 : decode b_M_part 23 = .ok (.iconst 4, 1) := by decide +kernel
theorem d_M_part_24 : decode b_M_part 24 = .ok (.invokestatic 52, 3) := by decide +kernel
theorem d_M_part_27 : decode b_M_part 27 = .ok (.ifCond .ne 6, 3) := by decide +kernel
theorem d_M_part_30 : decode b_M_part 30 = .ok (.bipush (-12), 2) := by decide +kernel
theorem d_M_part_32 : decode b_M_part 32 = .ok (.ireturn, 1) := by decide +kernel
theorem d_M_part_33 : decode b_M_part 33 = .ok (.iload_n 2, 1) := by decide +kernel
theorem d_M_part_34 : decode b_M_part 34 = .ok (.ifCond .ne 28, 3) := by decide +kernel
theorem d_M_part_37 : decode b_M_part 37 = .ok (.aload_n 0, 1) := by decide +kernel
theorem d_M_part_38 : decode b_M_part 38 = .ok (.getfield 56, 3) := by decide +kernel
theorem d_M_part_41 : decode b_M_part 41 = .ok (.aload_n 0, 1) := by decide +kernel
theorem d_M_part_42 : decode b_M_part 42 = .ok (.getfield 59, 3) := by decide +kernel
theorem d_M_part_45 : decode b_M_part 45 = .ok (.aload_n 0, 1) := by decide +kernel
theorem d_M_part_46 : decode b_M_part 46 = .ok (.getfield 62, 3) := by decide +kernel
theorem d_M_part_49 : decode b_M_part 49 = .ok (.iload_n 1, 1) := by decide +kernel
theorem d_M_part_50 : decode b_M_part 50 = .ok (.invokestatic 71, 3) := by decide +kernel
theorem d_M_part_53 : decode b_M_part 53 = .ok (.ifCond .eq 7, 3) := by decide +kernel
theorem d_M_part_56 : decode b_M_part 56 = .ok (.iconst 1, 1) := by decide +kernel
theorem d_M_part_57 : decode b_M_part 57 = .ok (.goto 4, 3) := by decide +kernel
theorem d_M_part_60 : decode b_M_part 60 = .ok (.iconst 0, 1) := by decide +kernel
theorem d_M_part_61 : decode b_M_part 61 = .ok (.ireturn, 1) := by decide +kernel
theorem d_M_part_62 : decode b_M_part 62 = .ok (.aload_n 0, 1) := by decide +kernel
theorem d_M_part_63 : decode b_M_part 63 = .ok (.getfield 56, 3) := by decide +kernel
theorem d_M_part_66 : decode b_M_part 66 = .ok (.aload_n 0, 1) := by decide +kernel
theorem d_M_part_67 : decode b_M_part 67 = .ok (.getfield 59, 3) := by decide +kernel
theorem d_M_part_70 : decode b_M_part 70 = .ok (.iload_n 1, 1) := by decide +kernel
theorem d_M_part_71 : decode b_M_part 71 = .ok (.invokestatic 44, 3) := by decide +kernel
theorem d_M_part_74 : decode b_M_part 74 = .ok (.iload_n 2, 1) := by decide +kernel
theorem d_M_part_75 : decode b_M_part 75 = .ok (.invokestatic 75, 3) := by decide +kernel
theorem d_M_part_78 : decode b_M_part 78 = .ok (.ireturn, 1) := by decide +kernel
theorem d_M_point_0 : decode b_M_point 0 = .ok (.aload_n 0, 1) := by decide +kernel
theorem d_M_point_1 : decode b_M_point 1 = .ok (.iconst 0, 1) := by decide +kernel
theorem d_M_point_2 : decode b_M_point 2 = .ok (.putfield 24, 3) := by decide +kernel
theorem d_M_point_5 : decode b_M_point 5 = .ok (.aload_n 0, 1) := by decide +kernel
theorem d_M_point_6 : decode b_M_point 6 = .ok (.getfield 59, 3) := by decide +kernel
theorem d_M_point_9 : decode b_M_point 9 = .ok (.iconst 1, 1) := by decide +kernel
theorem d_M_point_10 : decode b_M_point 10 = .ok (.if_icmp .ne 37, 3) := by decide +kernel
theorem d_M_point_13 : decode b_M_point 13 = .ok (.iload_n 1, 1) := by decide +kernel
theorem d_M_point_14 : decode b_M_point 14 = .ok (.iconst 0, 1) := by decide +kernel
theorem d_M_point_15 : decode b_M_point 15 = .ok (.aload_n 0, 1) := by decide +kernel
theorem d_M_point_16 : decode b_M_point 16 = .ok (.getfield 62, 3) := by decide +kernel
theorem d_M_point_19 : decode b_M_point 19 = .ok (.iconst 1, 1) := by decide +kernel
theorem d_M_point_20 : decode b_M_point 20 = .ok (.isub, 1) := by decide +kernel
theorem d_M_point_21 : decode b_M_point 21 = .ok (.invokestatic 52, 3) := by decide +kernel
theorem d_M_point_24 : decode b_M_point 24 = .ok (.ifCond .eq 23, 3) := by decide +kernel
theorem d_M_point_27 : decode b_M_point 27 = .ok (.iload_n 2, 1) := by decide +kernel
theorem d_M_point_28 : decode b_M_point 28 = .ok (.iconst 0, 1) := by decide +kernel
theorem d_M_point_29 : decode b_M_point 29 = .ok (.bipush 11, 2) := by decide +kernel
theorem d_M_point_31 : decode b_M_point 31 = .ok (.invokestatic 52, 3) := by decide +kernel
theorem d_M_point_34 : decode b_M_point 34 = .ok (.ifCond .eq 13, 3) := by decide +kernel
theorem d_M_point_37 : decode b_M_point 37 = .ok (.iload_n 3, 1) := by decide +kernel
theorem d_M_point_38 : decode b_M_point 38 = .ok (.iconst 0, 1) := by decide +kernel
theorem d_M_point_39 : decode b_M_point 39 = .ok (.bipush 19, 2) := by decide +kernel
theorem d_M_point_41 : decode b_M_point 41 = .ok (.invokestatic 52, 3) := by decide +kernel
theorem d_M_point_44 : decode b_M_point 44 = .ok (.ifCond .ne 5, 3) := by decide +kernel
theorem d_M_point_47 : decode b_M_point 47 = .ok (.iconst (-1), 1) := by decide +kernel
theorem d_M_point_48 : decode b_M_point 48 = .ok (.ireturn, 1) := by decide +kernel
theorem d_M_point_49 : decode b_M_point 49 = .ok (.aload_n 0, 1) := by decide +kernel
theorem d_M_point_50 : decode b_M_point 50 = .ok (.getfield 17, 3) := by decide +kernel
theorem d_M_point_53 : decode b_M_point 53 = .ok (.aload_n 0, 1) := by decide +kernel
theorem d_M_point_54 : decode b_M_point 54 = .ok (.getfield 56, 3) := by decide +kernel
theorem d_M_point_57 : decode b_M_point 57 = .ok (.iconst 1, 1) := by decide +kernel
theorem d_M_point_58 : decode b_M_point 58 = .ok (.iload_n 1, 1) := by decide +kernel
theorem d_M_point_59 : decode b_M_point 59 = .ok (.invokestatic 44, 3) := by decide +kernel
theorem d_M_point_62 : decode b_M_point 62 = .ok (.iconst 1, 1) := by decide +kernel
theorem d_M_point_63 : decode b_M_point 63 = .ok (.invokestatic 75, 3) := by decide +kernel
theorem d_M_point_66 : decode b_M_point 66 = .ok (.bipush 10, 2) := by decide +kernel
theorem d_M_point_68 : decode b_M_point 68 = .ok (.irem, 1) := by decide +kernel
theorem d_M_point_69 : decode b_M_point 69 = .ok (.iaload, 1) := by decide +kernel
theorem d_M_point_70 : decode b_M_point 70 = .ok (.istore 4, 2) := by decide +kernel
theorem d_M_point_72 : decode b_M_point 72 = .ok (.iload 4, 2) := by decide +kernel
theorem d_M_point_74 : decode b_M_point 74 = .ok (.bipush 14, 2) := by decide +kernel
theorem d_M_point_76 : decode b_M_point 76 = .ok (.iconst 3, 1) := by decide +kernel
theorem d_M_point_77 : decode b_M_point 77 = .ok (.iload_n 3, 1) := by decide +kernel
theorem d_M_point_78 : decode b_M_point 78 = .ok (.iconst 4, 1) := by decide +kernel
theorem d_M_point_79 : decode b_M_point 79 = .ok (.idiv, 1) := by decide +kernel
theorem d_M_point_80 : decode b_M_point 80 = .ok (.imul, 1) := by decide +kernel
theorem d_M_point_81 : decode b_M_point 81 = .ok (.isub, 1) := by decide +kernel
theorem d_M_point_82 : decode b_M_point 82 = .ok (.iload_n 2, 1) := by decide +kernel
theorem d_M_point_83 : decode b_M_point 83 = .ok (.iconst 4, 1) := by decide +kernel
theorem d_M_point_84 : decode b_M_point 84 = .ok (.idiv, 1) := by decide +kernel
theorem d_M_point_85 : decode b_M_point 85 = .ok (.isub, 1) := by decide +kernel
theorem d_M_point_86 : decode b_M_point 86 = .ok (.ishr, 1) := by decide +kernel
theorem d_M_point_87 : decode b_M_point 87 = .ok (.iconst 1, 1) := by decide +kernel
theorem d_M_point_88 : decode b_M_point 88 = .ok (.iand, 1) := by decide +kernel
theorem d_M_point_89 : decode b_M_point 89 = .ok (.iconst 1, 1) := by decide +kernel
theorem d_M_point_90 : decode b_M_point 90 = .ok (.if_icmp .ne 7, 3) := by decide +kernel
theorem d_M_point_93 : decode b_M_point 93 = .ok (.iconst 1, 1) := by decide +kernel
theorem d_M_point_94 : decode b_M_point 94 = .ok (.goto 4, 3) := by decide +kernel
theorem d_M_point_97 : decode b_M_point 97 = .ok (.iconst 0, 1) := by decide +kernel
theorem d_M_point_98 : decode b_M_point 98 = .ok (.istore 5, 2) := by decide +kernel
theorem d_M_point_100 : decode b_M_point 100 = .ok (.iload 5, 2) := by decide +kernel
theorem d_M_point_102 : decode b_M_point 102 = .ok (.ifCond .eq 8, 3) := by decide +kernel
theorem d_M_point_105 : decode b_M_point 105 = .ok (.bipush 40, 2) := by decide +kernel
theorem d_M_point_107 : decode b_M_point 107 = .ok (.goto 6, 3) := by decide +kernel
theorem d_M_point_110 : decode b_M_point 110 = .ok (.sipush 200, 3) := by decide +kernel
theorem d_M_point_113 : decode b_M_point 113 = .ok (.aload_n 0, 1) := by decide +kernel
theorem d_M_point_114 : decode b_M_point 114 = .ok (.getfield 56, 3) := by decide +kernel
theorem d_M_point_117 : decode b_M_point 117 = .ok (.iconst 5, 1) := by decide +kernel
theorem d_M_point_118 : decode b_M_point 118 = .ok (.iload_n 1, 1) := by decide +kernel
theorem d_M_point_119 : decode b_M_point 119 = .ok (.iadd, 1) := by decide +kernel
theorem d_M_point_120 : decode b_M_point 120 = .ok (.bipush 12, 2) := by decide +kernel
theorem d_M_point_122 : decode b_M_point 122 = .ok (.iload_n 3, 1) := by decide +kernel
theorem d_M_point_123 : decode b_M_point 123 = .ok (.imul, 1) := by decide +kernel
theorem d_M_point_124 : decode b_M_point 124 = .ok (.iload_n 2, 1) := by decide +kernel
theorem d_M_point_125 : decode b_M_point 125 = .ok (.iadd, 1) := by decide +kernel
theorem d_M_point_126 : decode b_M_point 126 = .ok (.invokestatic 44, 3) := by decide +kernel
theorem d_M_point_129 : decode b_M_point 129 = .ok (.bipush 33, 2) := by decide +kernel
theorem d_M_point_131 : decode b_M_point 131 = .ok (.invokestatic 40, 3) := by decide +kernel
theorem d_M_point_134 : decode b_M_point 134 = .ok (.iadd, 1) := by decide +kernel
theorem d_M_point_135 : decode b_M_point 135 = .ok (.bipush 16, 2) := by decide +kernel
theorem d_M_point_137 : decode b_M_point 137 = .ok (.isub, 1) := by decide +kernel
theorem d_M_point_138 : decode b_M_point 138 = .ok (.ireturn, 1) := by decide +kernel
theorem d_M_placeOf_0 : decode b_M_placeOf 0 = .ok (.iconst (-1), 1) := by decide +kernel
theorem d_M_placeOf_1 : decode b_M_placeOf 1 = .ok (.istore_n 2, 1) := by decide +kernel
theorem d_M_placeOf_2 : decode b_M_placeOf 2 = .ok (.iconst 0, 1) := by decide +kernel
theorem d_M_placeOf_3 : decode b_M_placeOf 3 = .ok (.istore_n 3, 1) := by decide +kernel
theorem d_M_placeOf_4 : decode b_M_placeOf 4 = .ok (.iload_n 3, 1) := by decide +kernel
theorem d_M_placeOf_5 : decode b_M_placeOf 5 = .ok (.aload_n 0, 1) := by decide +kernel
theorem d_M_placeOf_6 : decode b_M_placeOf 6 = .ok (.getfield 68, 3) := by decide +kernel
theorem d_M_placeOf_9 : decode b_M_placeOf 9 = .ok (.if_icmp .ge 25, 3) := by decide +kernel
theorem d_M_placeOf_12 : decode b_M_placeOf 12 = .ok (.aload_n 0, 1) := by decide +kernel
theorem d_M_placeOf_13 : decode b_M_placeOf 13 = .ok (.getfield 7, 3) := by decide +kernel
theorem d_M_placeOf_16 : decode b_M_placeOf 16 = .ok (.iload_n 3, 1) := by decide +kernel
theorem d_M_placeOf_17 : decode b_M_placeOf 17 = .ok (.iaload, 1) := by decide +kernel
theorem d_M_placeOf_18 : decode b_M_placeOf 18 = .ok (.iload_n 1, 1) := by decide +kernel
theorem d_M_placeOf_19 : decode b_M_placeOf 19 = .ok (.if_icmp .ne 7, 3) := by decide +kernel
theorem d_M_placeOf_22 : decode b_M_placeOf 22 = .ok (.iload_n 3, 1) := by decide +kernel
theorem d_M_placeOf_23 : decode b_M_placeOf 23 = .ok (.goto 4, 3) := by decide +kernel
theorem d_M_placeOf_26 : decode b_M_placeOf 26 = .ok (.iload_n 2, 1) := by decide +kernel
theorem d_M_placeOf_27 : decode b_M_placeOf 27 = .ok (.istore_n 2, 1) := by decide +kernel
theorem d_M_placeOf_28 : decode b_M_placeOf 28 = .ok (.iinc 3 1, 3) := by decide +kernel
theorem d_M_placeOf_31 : decode b_M_placeOf 31 = .ok (.goto (-27), 3) := by decide +kernel
theorem d_M_placeOf_34 : decode b_M_placeOf 34 = .ok (.iload_n 2, 1) := by decide +kernel
theorem d_M_placeOf_35 : decode b_M_placeOf 35 = .ok (.ireturn, 1) := by decide +kernel
theorem d_M_stays_0 : decode b_M_stays 0 = .ok (.aload_n 0, 1) := by decide +kernel
theorem d_M_stays_1 : decode b_M_stays 1 = .ok (.iload_n 1, 1) := by decide +kernel
theorem d_M_stays_2 : decode b_M_stays 2 = .ok (.invokevirtual 78, 3) := by decide +kernel
theorem d_M_stays_5 : decode b_M_stays 5 = .ok (.istore_n 2, 1) := by decide +kernel
theorem d_M_stays_6 : decode b_M_stays 6 = .ok (.iload_n 2, 1) := by decide +kernel
theorem d_M_stays_7 : decode b_M_stays 7 = .ok (.iconst (-1), 1) := by decide +kernel
theorem d_M_stays_8 : decode b_M_stays 8 = .ok (.if_icmp .eq 16, 3) := by decide +kernel
theorem d_M_stays_11 : decode b_M_stays 11 = .ok (.aload_n 0, 1) := by decide +kernel
theorem d_M_stays_12 : decode b_M_stays 12 = .ok (.getfield 13, 3) := by decide +kernel
theorem d_M_stays_15 : decode b_M_stays 15 = .ok (.iload_n 2, 1) := by decide +kernel
theorem d_M_stays_16 : decode b_M_stays 16 = .ok (.baload, 1) := by decide +kernel
theorem d_M_stays_17 : decode b_M_stays 17 = .ok (.ifCond .eq 7, 3) := by decide +kernel
theorem d_M_stays_20 : decode b_M_stays 20 = .ok (.iconst 1, 1) := by decide +kernel
theorem d_M_stays_21 : decode b_M_stays 21 = .ok (.goto 4, 3) := by decide +kernel
theorem d_M_stays_24 : decode b_M_stays 24 = .ok (.iconst 0, 1) := by decide +kernel
theorem d_M_stays_25 : decode b_M_stays 25 = .ok (.ireturn, 1) := by decide +kernel
theorem d_M_verdict_0 : decode b_M_verdict 0 = .ok (.aload_n 0, 1) := by decide +kernel
theorem d_M_verdict_1 : decode b_M_verdict 1 = .ok (.iconst 0, 1) := by decide +kernel
theorem d_M_verdict_2 : decode b_M_verdict 2 = .ok (.putfield 24, 3) := by decide +kernel
theorem d_M_verdict_5 : decode b_M_verdict 5 = .ok (.aload_n 0, 1) := by decide +kernel
theorem d_M_verdict_6 : decode b_M_verdict 6 = .ok (.getfield 62, 3) := by decide +kernel
theorem d_M_verdict_9 : decode b_M_verdict 9 = .ok (.ifCond .ne 6, 3) := by decide +kernel
theorem d_M_verdict_12 : decode b_M_verdict 12 = .ok (.bipush (-13), 2) := by decide +kernel
theorem d_M_verdict_14 : decode b_M_verdict 14 = .ok (.ireturn, 1) := by decide +kernel
theorem d_M_verdict_15 : decode b_M_verdict 15 = .ok (.iload_n 1, 1) := by decide +kernel
theorem d_M_verdict_16 : decode b_M_verdict 16 = .ok (.iconst 1, 1) := by decide +kernel
theorem d_M_verdict_17 : decode b_M_verdict 17 = .ok (.iconst 1, 1) := by decide +kernel
theorem d_M_verdict_18 : decode b_M_verdict 18 = .ok (.aload_n 0, 1) := by decide +kernel
theorem d_M_verdict_19 : decode b_M_verdict 19 = .ok (.getfield 62, 3) := by decide +kernel
theorem d_M_verdict_22 : decode b_M_verdict 22 = .ok (.ishl, 1) := by decide +kernel
theorem d_M_verdict_23 : decode b_M_verdict 23 = .ok (.iconst 1, 1) := by decide +kernel
theorem d_M_verdict_24 : decode b_M_verdict 24 = .ok (.isub, 1) := by decide +kernel
theorem d_M_verdict_25 : decode b_M_verdict 25 = .ok (.invokestatic 52, 3) := by decide +kernel
theorem d_M_verdict_28 : decode b_M_verdict 28 = .ok (.ifCond .ne 6, 3) := by decide +kernel
theorem d_M_verdict_31 : decode b_M_verdict 31 = .ok (.bipush (-12), 2) := by decide +kernel
theorem d_M_verdict_33 : decode b_M_verdict 33 = .ok (.ireturn, 1) := by decide +kernel
theorem d_M_verdict_34 : decode b_M_verdict 34 = .ok (.aload_n 0, 1) := by decide +kernel
theorem d_M_verdict_35 : decode b_M_verdict 35 = .ok (.iload_n 1, 1) := by decide +kernel
theorem d_M_verdict_36 : decode b_M_verdict 36 = .ok (.invokevirtual 78, 3) := by decide +kernel
theorem d_M_verdict_39 : decode b_M_verdict 39 = .ok (.istore_n 3, 1) := by decide +kernel
theorem d_M_verdict_40 : decode b_M_verdict 40 = .ok (.iload_n 3, 1) := by decide +kernel
theorem d_M_verdict_41 : decode b_M_verdict 41 = .ok (.iconst (-1), 1) := by decide +kernel
theorem d_M_verdict_42 : decode b_M_verdict 42 = .ok (.if_icmp .ne 15, 3) := by decide +kernel
theorem d_M_verdict_45 : decode b_M_verdict 45 = .ok (.aload_n 0, 1) := by decide +kernel
theorem d_M_verdict_46 : decode b_M_verdict 46 = .ok (.getfield 68, 3) := by decide +kernel
theorem d_M_verdict_49 : decode b_M_verdict 49 = .ok (.bipush 100, 2) := by decide +kernel
theorem d_M_verdict_51 : decode b_M_verdict 51 = .ok (.if_icmp .ne 6, 3) := by decide +kernel
theorem d_M_verdict_54 : decode b_M_verdict 54 = .ok (.bipush (-14), 2) := by decide +kernel
theorem d_M_verdict_56 : decode b_M_verdict 56 = .ok (.ireturn, 1) := by decide +kernel
theorem d_M_verdict_57 : decode b_M_verdict 57 = .ok (.iload_n 3, 1) := by decide +kernel
theorem d_M_verdict_58 : decode b_M_verdict 58 = .ok (.iconst (-1), 1) := by decide +kernel
theorem d_M_verdict_59 : decode b_M_verdict 59 = .ok (.if_icmp .ne 18, 3) := by decide +kernel
theorem d_M_verdict_62 : decode b_M_verdict 62 = .ok (.aload_n 0, 1) := by decide +kernel
theorem d_M_verdict_63 : decode b_M_verdict 63 = .ok (.getfield 68, 3) := by decide +kernel
theorem d_M_verdict_66 : decode b_M_verdict 66 = .ok (.istore_n 3, 1) := by decide +kernel
theorem d_M_verdict_67 : decode b_M_verdict 67 = .ok (.aload_n 0, 1) := by decide +kernel
theorem d_M_verdict_68 : decode b_M_verdict 68 = .ok (.dup, 1) := by decide +kernel
theorem d_M_verdict_69 : decode b_M_verdict 69 = .ok (.getfield 68, 3) := by decide +kernel
theorem d_M_verdict_72 : decode b_M_verdict 72 = .ok (.iconst 1, 1) := by decide +kernel
theorem d_M_verdict_73 : decode b_M_verdict 73 = .ok (.iadd, 1) := by decide +kernel
theorem d_M_verdict_74 : decode b_M_verdict 74 = .ok (.putfield 68, 3) := by decide +kernel
theorem d_M_verdict_77 : decode b_M_verdict 77 = .ok (.aload_n 0, 1) := by decide +kernel
theorem d_M_verdict_78 : decode b_M_verdict 78 = .ok (.getfield 7, 3) := by decide +kernel
theorem d_M_verdict_81 : decode b_M_verdict 81 = .ok (.iload_n 3, 1) := by decide +kernel
theorem d_M_verdict_82 : decode b_M_verdict 82 = .ok (.iload_n 1, 1) := by decide +kernel
theorem d_M_verdict_83 : decode b_M_verdict 83 = .ok (.iastore, 1) := by decide +kernel
theorem d_M_verdict_84 : decode b_M_verdict 84 = .ok (.aload_n 0, 1) := by decide +kernel
theorem d_M_verdict_85 : decode b_M_verdict 85 = .ok (.getfield 13, 3) := by decide +kernel
theorem d_M_verdict_88 : decode b_M_verdict 88 = .ok (.iload_n 3, 1) := by decide +kernel
theorem d_M_verdict_89 : decode b_M_verdict 89 = .ok (.iload_n 2, 1) := by decide +kernel
theorem d_M_verdict_90 : decode b_M_verdict 90 = .ok (.bastore, 1) := by decide +kernel
theorem d_M_verdict_91 : decode b_M_verdict 91 = .ok (.aload_n 0, 1) := by decide +kernel
theorem d_M_verdict_92 : decode b_M_verdict 92 = .ok (.getfield 68, 3) := by decide +kernel
theorem d_M_verdict_95 : decode b_M_verdict 95 = .ok (.ireturn, 1) := by decide +kernel
theorem d_M_countOf_0 : decode b_M_countOf 0 = .ok (.iconst 0, 1) := by decide +kernel
theorem d_M_countOf_1 : decode b_M_countOf 1 = .ok (.istore_n 1, 1) := by decide +kernel
theorem d_M_countOf_2 : decode b_M_countOf 2 = .ok (.iconst 0, 1) := by decide +kernel
theorem d_M_countOf_3 : decode b_M_countOf 3 = .ok (.istore_n 2, 1) := by decide +kernel
theorem d_M_countOf_4 : decode b_M_countOf 4 = .ok (.iload_n 2, 1) := by decide +kernel
theorem d_M_countOf_5 : decode b_M_countOf 5 = .ok (.bipush 16, 2) := by decide +kernel
theorem d_M_countOf_7 : decode b_M_countOf 7 = .ok (.if_icmp .ge 17, 3) := by decide +kernel
theorem d_M_countOf_10 : decode b_M_countOf 10 = .ok (.iload_n 1, 1) := by decide +kernel
theorem d_M_countOf_11 : decode b_M_countOf 11 = .ok (.iload_n 0, 1) := by decide +kernel
theorem d_M_countOf_12 : decode b_M_countOf 12 = .ok (.iload_n 2, 1) := by decide +kernel
theorem d_M_countOf_13 : decode b_M_countOf 13 = .ok (.ishr, 1) := by decide +kernel
theorem d_M_countOf_14 : decode b_M_countOf 14 = .ok (.iconst 1, 1) := by decide +kernel
theorem d_M_countOf_15 : decode b_M_countOf 15 = .ok (.iand, 1) := by decide +kernel
theorem d_M_countOf_16 : decode b_M_countOf 16 = .ok (.iadd, 1) := by decide +kernel
theorem d_M_countOf_17 : decode b_M_countOf 17 = .ok (.istore_n 1, 1) := by decide +kernel
theorem d_M_countOf_18 : decode b_M_countOf 18 = .ok (.iinc 2 1, 3) := by decide +kernel
theorem d_M_countOf_21 : decode b_M_countOf 21 = .ok (.goto (-17), 3) := by decide +kernel
theorem d_M_countOf_24 : decode b_M_countOf 24 = .ok (.iload_n 1, 1) := by decide +kernel
theorem d_M_countOf_25 : decode b_M_countOf 25 = .ok (.ireturn, 1) := by decide +kernel
theorem d_M_without_0 : decode b_M_without 0 = .ok (.iload_n 2, 1) := by decide +kernel
theorem d_M_without_1 : decode b_M_without 1 = .ok (.istore_n 3, 1) := by decide +kernel
theorem d_M_without_2 : decode b_M_without 2 = .ok (.iload_n 3, 1) := by decide +kernel
theorem d_M_without_3 : decode b_M_without 3 = .ok (.aload_n 0, 1) := by decide +kernel
theorem d_M_without_4 : decode b_M_without 4 = .ok (.getfield 62, 3) := by decide +kernel
theorem d_M_without_7 : decode b_M_without 7 = .ok (.if_icmp .ge 51, 3) := by decide +kernel
theorem d_M_without_10 : decode b_M_without 10 = .ok (.iload_n 1, 1) := by decide +kernel
theorem d_M_without_11 : decode b_M_without 11 = .ok (.iload_n 3, 1) := by decide +kernel
theorem d_M_without_12 : decode b_M_without 12 = .ok (.ishr, 1) := by decide +kernel
theorem d_M_without_13 : decode b_M_without 13 = .ok (.iconst 1, 1) := by decide +kernel
theorem d_M_without_14 : decode b_M_without 14 = .ok (.iand, 1) := by decide +kernel
theorem d_M_without_15 : decode b_M_without 15 = .ok (.iconst 1, 1) := by decide +kernel
theorem d_M_without_16 : decode b_M_without 16 = .ok (.if_icmp .ne 7, 3) := by decide +kernel
theorem d_M_without_19 : decode b_M_without 19 = .ok (.iconst 1, 1) := by decide +kernel
theorem d_M_without_20 : decode b_M_without 20 = .ok (.goto 4, 3) := by decide +kernel
theorem d_M_without_23 : decode b_M_without 23 = .ok (.iconst 0, 1) := by decide +kernel
theorem d_M_without_24 : decode b_M_without 24 = .ok (.istore 4, 2) := by decide +kernel
theorem d_M_without_26 : decode b_M_without 26 = .ok (.iload 4, 2) := by decide +kernel
theorem d_M_without_28 : decode b_M_without 28 = .ok (.ifCond .eq 24, 3) := by decide +kernel
theorem d_M_without_31 : decode b_M_without 31 = .ok (.iload_n 1, 1) := by decide +kernel
theorem d_M_without_32 : decode b_M_without 32 = .ok (.iconst 1, 1) := by decide +kernel
theorem d_M_without_33 : decode b_M_without 33 = .ok (.iload_n 3, 1) := by decide +kernel
theorem d_M_without_34 : decode b_M_without 34 = .ok (.ishl, 1) := by decide +kernel
theorem d_M_without_35 : decode b_M_without 35 = .ok (.if_icmp .eq 17, 3) := by decide +kernel
theorem d_M_without_38 : decode b_M_without 38 = .ok (.aload_n 0, 1) := by decide +kernel
theorem d_M_without_39 : decode b_M_without 39 = .ok (.iload_n 1, 1) := by decide +kernel
theorem d_M_without_40 : decode b_M_without 40 = .ok (.iconst 1, 1) := by decide +kernel
theorem d_M_without_41 : decode b_M_without 41 = .ok (.iload_n 3, 1) := by decide +kernel
theorem d_M_without_42 : decode b_M_without 42 = .ok (.ishl, 1) := by decide +kernel
theorem d_M_without_43 : decode b_M_without 43 = .ok (.isub, 1) := by decide +kernel
theorem d_M_without_44 : decode b_M_without 44 = .ok (.invokevirtual 82, 3) := by decide +kernel
theorem d_M_without_47 : decode b_M_without 47 = .ok (.ifCond .eq 5, 3) := by decide +kernel
theorem d_M_without_50 : decode b_M_without 50 = .ok (.iload_n 3, 1) := by decide +kernel
theorem d_M_without_51 : decode b_M_without 51 = .ok (.ireturn, 1) := by decide +kernel
theorem d_M_without_52 : decode b_M_without 52 = .ok (.iinc 3 1, 3) := by decide +kernel
theorem d_M_without_55 : decode b_M_without 55 = .ok (.goto (-53), 3) := by decide +kernel
theorem d_M_without_58 : decode b_M_without 58 = .ok (.iconst (-1), 1) := by decide +kernel
theorem d_M_without_59 : decode b_M_without 59 = .ok (.ireturn, 1) := by decide +kernel
theorem d_M_shorter_0 : decode b_M_shorter 0 = .ok (.aload_n 0, 1) := by decide +kernel
theorem d_M_shorter_1 : decode b_M_shorter 1 = .ok (.iconst 0, 1) := by decide +kernel
theorem d_M_shorter_2 : decode b_M_shorter 2 = .ok (.putfield 24, 3) := by decide +kernel
theorem d_M_shorter_5 : decode b_M_shorter 5 = .ok (.aload_n 0, 1) := by decide +kernel
theorem d_M_shorter_6 : decode b_M_shorter 6 = .ok (.getfield 62, 3) := by decide +kernel
theorem d_M_shorter_9 : decode b_M_shorter 9 = .ok (.ifCond .ne 6, 3) := by decide +kernel
theorem d_M_shorter_12 : decode b_M_shorter 12 = .ok (.bipush (-13), 2) := by decide +kernel
theorem d_M_shorter_14 : decode b_M_shorter 14 = .ok (.ireturn, 1) := by decide +kernel
theorem d_M_shorter_15 : decode b_M_shorter 15 = .ok (.iconst 1, 1) := by decide +kernel
theorem d_M_shorter_16 : decode b_M_shorter 16 = .ok (.aload_n 0, 1) := by decide +kernel
theorem d_M_shorter_17 : decode b_M_shorter 17 = .ok (.getfield 62, 3) := by decide +kernel
theorem d_M_shorter_20 : decode b_M_shorter 20 = .ok (.ishl, 1) := by decide +kernel
theorem d_M_shorter_21 : decode b_M_shorter 21 = .ok (.iconst 1, 1) := by decide +kernel
theorem d_M_shorter_22 : decode b_M_shorter 22 = .ok (.isub, 1) := by decide +kernel
theorem d_M_shorter_23 : decode b_M_shorter 23 = .ok (.istore_n 1, 1) := by decide +kernel
theorem d_M_shorter_24 : decode b_M_shorter 24 = .ok (.aload_n 0, 1) := by decide +kernel
theorem d_M_shorter_25 : decode b_M_shorter 25 = .ok (.iload_n 1, 1) := by decide +kernel
theorem d_M_shorter_26 : decode b_M_shorter 26 = .ok (.invokevirtual 82, 3) := by decide +kernel
theorem d_M_shorter_29 : decode b_M_shorter 29 = .ok (.ifCond .eq 47, 3) := by decide +kernel
theorem d_M_shorter_32 : decode b_M_shorter 32 = .ok (.iconst 0, 1) := by decide +kernel
theorem d_M_shorter_33 : decode b_M_shorter 33 = .ok (.istore_n 2, 1) := by decide +kernel
theorem d_M_shorter_34 : decode b_M_shorter 34 = .ok (.iload_n 2, 1) := by decide +kernel
theorem d_M_shorter_35 : decode b_M_shorter 35 = .ok (.ifCond .lt 41, 3) := by decide +kernel
theorem d_M_shorter_38 : decode b_M_shorter 38 = .ok (.aload_n 0, 1) := by decide +kernel
theorem d_M_shorter_39 : decode b_M_shorter 39 = .ok (.iload_n 1, 1) := by decide +kernel
theorem d_M_shorter_40 : decode b_M_shorter 40 = .ok (.iload_n 2, 1) := by decide +kernel
theorem d_M_shorter_41 : decode b_M_shorter 41 = .ok (.invokevirtual 86, 3) := by decide +kernel
theorem d_M_shorter_44 : decode b_M_shorter 44 = .ok (.istore_n 3, 1) := by decide +kernel
theorem d_M_shorter_45 : decode b_M_shorter 45 = .ok (.iload_n 3, 1) := by decide +kernel
theorem d_M_shorter_46 : decode b_M_shorter 46 = .ok (.iconst (-1), 1) := by decide +kernel
theorem d_M_shorter_47 : decode b_M_shorter 47 = .ok (.if_icmp .eq 16, 3) := by decide +kernel
theorem d_M_shorter_50 : decode b_M_shorter 50 = .ok (.iload_n 1, 1) := by decide +kernel
theorem d_M_shorter_51 : decode b_M_shorter 51 = .ok (.iconst 1, 1) := by decide +kernel
theorem d_M_shorter_52 : decode b_M_shorter 52 = .ok (.iload_n 3, 1) := by decide +kernel
theorem d_M_shorter_53 : decode b_M_shorter 53 = .ok (.ishl, 1) := by decide +kernel
theorem d_M_shorter_54 : decode b_M_shorter 54 = .ok (.isub, 1) := by decide +kernel
theorem d_M_shorter_55 : decode b_M_shorter 55 = .ok (.istore_n 1, 1) := by decide +kernel
theorem d_M_shorter_56 : decode b_M_shorter 56 = .ok (.iload_n 3, 1) := by decide +kernel
theorem d_M_shorter_57 : decode b_M_shorter 57 = .ok (.iconst 1, 1) := by decide +kernel
theorem d_M_shorter_58 : decode b_M_shorter 58 = .ok (.iadd, 1) := by decide +kernel
theorem d_M_shorter_59 : decode b_M_shorter 59 = .ok (.istore_n 2, 1) := by decide +kernel
theorem d_M_shorter_60 : decode b_M_shorter 60 = .ok (.goto 13, 3) := by decide +kernel
theorem d_M_shorter_63 : decode b_M_shorter 63 = .ok (.iload_n 2, 1) := by decide +kernel
theorem d_M_shorter_64 : decode b_M_shorter 64 = .ok (.ifCond .le 7, 3) := by decide +kernel
theorem d_M_shorter_67 : decode b_M_shorter 67 = .ok (.iconst 0, 1) := by decide +kernel
theorem d_M_shorter_68 : decode b_M_shorter 68 = .ok (.goto 4, 3) := by decide +kernel
theorem d_M_shorter_71 : decode b_M_shorter 71 = .ok (.iconst (-1), 1) := by decide +kernel
theorem d_M_shorter_72 : decode b_M_shorter 72 = .ok (.istore_n 2, 1) := by decide +kernel
theorem d_M_shorter_73 : decode b_M_shorter 73 = .ok (.goto (-39), 3) := by decide +kernel
theorem d_M_shorter_76 : decode b_M_shorter 76 = .ok (.aload_n 0, 1) := by decide +kernel
theorem d_M_shorter_77 : decode b_M_shorter 77 = .ok (.iload_n 1, 1) := by decide +kernel
theorem d_M_shorter_78 : decode b_M_shorter 78 = .ok (.putfield 65, 3) := by decide +kernel
theorem d_M_shorter_81 : decode b_M_shorter 81 = .ok (.iload_n 1, 1) := by decide +kernel
theorem d_M_shorter_82 : decode b_M_shorter 82 = .ok (.invokestatic 90, 3) := by decide +kernel
theorem d_M_shorter_85 : decode b_M_shorter 85 = .ok (.ireturn, 1) := by decide +kernel
theorem d_M_left_0 : decode b_M_left 0 = .ok (.aload_n 0, 1) := by decide +kernel
theorem d_M_left_1 : decode b_M_left 1 = .ok (.iconst 0, 1) := by decide +kernel
theorem d_M_left_2 : decode b_M_left 2 = .ok (.putfield 24, 3) := by decide +kernel
theorem d_M_left_5 : decode b_M_left 5 = .ok (.iconst 0, 1) := by decide +kernel
theorem d_M_left_6 : decode b_M_left 6 = .ok (.istore_n 2, 1) := by decide +kernel
theorem d_M_left_7 : decode b_M_left 7 = .ok (.iconst 0, 1) := by decide +kernel
theorem d_M_left_8 : decode b_M_left 8 = .ok (.istore_n 3, 1) := by decide +kernel
theorem d_M_left_9 : decode b_M_left 9 = .ok (.iload_n 3, 1) := by decide +kernel
theorem d_M_left_10 : decode b_M_left 10 = .ok (.aload_n 0, 1) := by decide +kernel
theorem d_M_left_11 : decode b_M_left 11 = .ok (.getfield 62, 3) := by decide +kernel
theorem d_M_left_14 : decode b_M_left 14 = .ok (.if_icmp .ge 31, 3) := by decide +kernel
theorem d_M_left_17 : decode b_M_left 17 = .ok (.aload_n 0, 1) := by decide +kernel
theorem d_M_left_18 : decode b_M_left 18 = .ok (.getfield 65, 3) := by decide +kernel
theorem d_M_left_21 : decode b_M_left 21 = .ok (.iload_n 3, 1) := by decide +kernel
theorem d_M_left_22 : decode b_M_left 22 = .ok (.ishr, 1) := by decide +kernel
theorem d_M_left_23 : decode b_M_left 23 = .ok (.iconst 1, 1) := by decide +kernel
theorem d_M_left_24 : decode b_M_left 24 = .ok (.iand, 1) := by decide +kernel
theorem d_M_left_25 : decode b_M_left 25 = .ok (.iconst 1, 1) := by decide +kernel
theorem d_M_left_26 : decode b_M_left 26 = .ok (.if_icmp .ne 13, 3) := by decide +kernel
theorem d_M_left_29 : decode b_M_left 29 = .ok (.iload_n 2, 1) := by decide +kernel
theorem d_M_left_30 : decode b_M_left 30 = .ok (.iload_n 1, 1) := by decide +kernel
theorem d_M_left_31 : decode b_M_left 31 = .ok (.if_icmp .ne 5, 3) := by decide +kernel
theorem d_M_left_34 : decode b_M_left 34 = .ok (.iload_n 3, 1) := by decide +kernel
theorem d_M_left_35 : decode b_M_left 35 = .ok (.ireturn, 1) := by decide +kernel
theorem d_M_left_36 : decode b_M_left 36 = .ok (.iinc 2 1, 3) := by decide +kernel
theorem d_M_left_39 : decode b_M_left 39 = .ok (.iinc 3 1, 3) := by decide +kernel
theorem d_M_left_42 : decode b_M_left 42 = .ok (.goto (-33), 3) := by decide +kernel
theorem d_M_left_45 : decode b_M_left 45 = .ok (.iconst (-1), 1) := by decide +kernel
theorem d_M_left_46 : decode b_M_left 46 = .ok (.ireturn, 1) := by decide +kernel
theorem d_M_minimal_0 : decode b_M_minimal 0 = .ok (.aload_n 0, 1) := by decide +kernel
theorem d_M_minimal_1 : decode b_M_minimal 1 = .ok (.iconst 0, 1) := by decide +kernel
theorem d_M_minimal_2 : decode b_M_minimal 2 = .ok (.putfield 24, 3) := by decide +kernel
theorem d_M_minimal_5 : decode b_M_minimal 5 = .ok (.aload_n 0, 1) := by decide +kernel
theorem d_M_minimal_6 : decode b_M_minimal 6 = .ok (.getfield 62, 3) := by decide +kernel
theorem d_M_minimal_9 : decode b_M_minimal 9 = .ok (.ifCond .le 31, 3) := by decide +kernel
theorem d_M_minimal_12 : decode b_M_minimal 12 = .ok (.aload_n 0, 1) := by decide +kernel
theorem d_M_minimal_13 : decode b_M_minimal 13 = .ok (.aload_n 0, 1) := by decide +kernel
theorem d_M_minimal_14 : decode b_M_minimal 14 = .ok (.getfield 65, 3) := by decide +kernel
theorem d_M_minimal_17 : decode b_M_minimal 17 = .ok (.invokevirtual 82, 3) := by decide +kernel
theorem d_M_minimal_20 : decode b_M_minimal 20 = .ok (.ifCond .eq 20, 3) := by decide +kernel
theorem d_M_minimal_23 : decode b_M_minimal 23 = .ok (.aload_n 0, 1) := by decide +kernel
theorem d_M_minimal_24 : decode b_M_minimal 24 = .ok (.aload_n 0, 1) := by decide +kernel
theorem d_M_minimal_25 : decode b_M_minimal 25 = .ok (.getfield 65, 3) := by decide +kernel
theorem d_M_minimal_28 : decode b_M_minimal 28 = .ok (.iconst 0, 1) := by decide +kernel
theorem d_M_minimal_29 : decode b_M_minimal 29 = .ok (.invokevirtual 86, 3) := by decide +kernel
theorem d_M_minimal_32 : decode b_M_minimal 32 = .ok (.iconst (-1), 1) := by decide +kernel
theorem d_M_minimal_33 : decode b_M_minimal 33 = .ok (.if_icmp .ne 7, 3) := by decide +kernel
theorem d_M_minimal_36 : decode b_M_minimal 36 = .ok (.iconst 1, 1) := by decide +kernel
theorem d_M_minimal_37 : decode b_M_minimal 37 = .ok (.goto 4, 3) := by decide +kernel
theorem d_M_minimal_40 : decode b_M_minimal 40 = .ok (.iconst 0, 1) := by decide +kernel
theorem d_M_minimal_41 : decode b_M_minimal 41 = .ok (.ireturn, 1) := by decide +kernel
theorem d_M_faultless_0 : decode b_M_faultless 0 = .ok (.aload_n 0, 1) := by decide +kernel
theorem d_M_faultless_1 : decode b_M_faultless 1 = .ok (.iconst 0, 1) := by decide +kernel
theorem d_M_faultless_2 : decode b_M_faultless 2 = .ok (.putfield 24, 3) := by decide +kernel
theorem d_M_faultless_5 : decode b_M_faultless 5 = .ok (.aload_n 0, 1) := by decide +kernel
theorem d_M_faultless_6 : decode b_M_faultless 6 = .ok (.getfield 59, 3) := by decide +kernel
theorem d_M_faultless_9 : decode b_M_faultless 9 = .ok (.iconst 3, 1) := by decide +kernel
theorem d_M_faultless_10 : decode b_M_faultless 10 = .ok (.if_icmp .ne 40, 3) := by decide +kernel
theorem d_M_faultless_13 : decode b_M_faultless 13 = .ok (.iload_n 1, 1) := by decide +kernel
theorem d_M_faultless_14 : decode b_M_faultless 14 = .ok (.iconst 0, 1) := by decide +kernel
theorem d_M_faultless_15 : decode b_M_faultless 15 = .ok (.aload_n 0, 1) := by decide +kernel
theorem d_M_faultless_16 : decode b_M_faultless 16 = .ok (.getfield 62, 3) := by decide +kernel
theorem d_M_faultless_19 : decode b_M_faultless 19 = .ok (.iconst 1, 1) := by decide +kernel
theorem d_M_faultless_20 : decode b_M_faultless 20 = .ok (.isub, 1) := by decide +kernel
theorem d_M_faultless_21 : decode b_M_faultless 21 = .ok (.invokestatic 52, 3) := by decide +kernel
theorem d_M_faultless_24 : decode b_M_faultless 24 = .ok (.ifCond .eq 26, 3) := by decide +kernel
theorem d_M_faultless_27 : decode b_M_faultless 27 = .ok (.aload_n 0, 1) := by decide +kernel
theorem d_M_faultless_28 : decode b_M_faultless 28 = .ok (.getfield 56, 3) := by decide +kernel
theorem d_M_faultless_31 : decode b_M_faultless 31 = .ok (.aload_n 0, 1) := by decide +kernel
theorem d_M_faultless_32 : decode b_M_faultless 32 = .ok (.getfield 59, 3) := by decide +kernel
theorem d_M_faultless_35 : decode b_M_faultless 35 = .ok (.aload_n 0, 1) := by decide +kernel
theorem d_M_faultless_36 : decode b_M_faultless 36 = .ok (.getfield 62, 3) := by decide +kernel
theorem d_M_faultless_39 : decode b_M_faultless 39 = .ok (.iload_n 1, 1) := by decide +kernel
theorem d_M_faultless_40 : decode b_M_faultless 40 = .ok (.invokestatic 71, 3) := by decide +kernel
theorem d_M_faultless_43 : decode b_M_faultless 43 = .ok (.ifCond .ne 7, 3) := by decide +kernel
theorem d_M_faultless_46 : decode b_M_faultless 46 = .ok (.iconst 1, 1) := by decide +kernel
theorem d_M_faultless_47 : decode b_M_faultless 47 = .ok (.goto 4, 3) := by decide +kernel
theorem d_M_faultless_50 : decode b_M_faultless 50 = .ok (.iconst 0, 1) := by decide +kernel
theorem d_M_faultless_51 : decode b_M_faultless 51 = .ok (.ireturn, 1) := by decide +kernel
theorem d_M_same_0 : decode b_M_same 0 = .ok (.aload_n 0, 1) := by decide +kernel
theorem d_M_same_1 : decode b_M_same 1 = .ok (.iconst 0, 1) := by decide +kernel
theorem d_M_same_2 : decode b_M_same 2 = .ok (.putfield 24, 3) := by decide +kernel
theorem d_M_same_5 : decode b_M_same 5 = .ok (.iload_n 3, 1) := by decide +kernel
theorem d_M_same_6 : decode b_M_same 6 = .ok (.iconst 0, 1) := by decide +kernel
theorem d_M_same_7 : decode b_M_same 7 = .ok (.iconst 4, 1) := by decide +kernel
theorem d_M_same_8 : decode b_M_same 8 = .ok (.invokestatic 52, 3) := by decide +kernel
theorem d_M_same_11 : decode b_M_same 11 = .ok (.ifCond .eq 18, 3) := by decide +kernel
theorem d_M_same_14 : decode b_M_same 14 = .ok (.iload 4, 2) := by decide +kernel
theorem d_M_same_16 : decode b_M_same 16 = .ok (.iconst 0, 1) := by decide +kernel
theorem d_M_same_17 : decode b_M_same 17 = .ok (.bipush 15, 2) := by decide +kernel
theorem d_M_same_19 : decode b_M_same 19 = .ok (.invokestatic 52, 3) := by decide +kernel
theorem d_M_same_22 : decode b_M_same 22 = .ok (.ifCond .eq 7, 3) := by decide +kernel
theorem d_M_same_25 : decode b_M_same 25 = .ok (.iconst 1, 1) := by decide +kernel
theorem d_M_same_26 : decode b_M_same 26 = .ok (.goto 4, 3) := by decide +kernel
theorem d_M_same_29 : decode b_M_same 29 = .ok (.iconst 0, 1) := by decide +kernel
theorem d_M_same_30 : decode b_M_same 30 = .ok (.istore 5, 2) := by decide +kernel
theorem d_M_same_32 : decode b_M_same 32 = .ok (.iconst 0, 1) := by decide +kernel
theorem d_M_same_33 : decode b_M_same 33 = .ok (.istore 6, 2) := by decide +kernel
theorem d_M_same_35 : decode b_M_same 35 = .ok (.iload 5, 2) := by decide +kernel
theorem d_M_same_37 : decode b_M_same 37 = .ok (.ifCond .eq 113, 3) := by decide +kernel
theorem d_M_same_40 : decode b_M_same 40 = .ok (.iload 6, 2) := by decide +kernel
theorem d_M_same_42 : decode b_M_same 42 = .ok (.iload 4, 2) := by decide +kernel
theorem d_M_same_44 : decode b_M_same 44 = .ok (.if_icmp .gt 106, 3) := by decide +kernel
theorem d_M_same_47 : decode b_M_same 47 = .ok (.iconst 1, 1) := by decide +kernel
theorem d_M_same_48 : decode b_M_same 48 = .ok (.istore 7, 2) := by decide +kernel
theorem d_M_same_50 : decode b_M_same 50 = .ok (.iload 7, 2) := by decide +kernel
theorem d_M_same_52 : decode b_M_same 52 = .ok (.iconst 5, 1) := by decide +kernel
theorem d_M_same_53 : decode b_M_same 53 = .ok (.if_icmp .ge 51, 3) := by decide +kernel
theorem d_M_same_56 : decode b_M_same 56 = .ok (.iload 5, 2) := by decide +kernel
theorem d_M_same_58 : decode b_M_same 58 = .ok (.ifCond .eq 37, 3) := by decide +kernel
theorem d_M_same_61 : decode b_M_same 61 = .ok (.lload_n 1, 1) := by decide +kernel
theorem d_M_same_62 : decode b_M_same 62 = .ok (.iload_n 3, 1) := by decide +kernel
theorem d_M_same_63 : decode b_M_same 63 = .ok (.iload 6, 2) := by decide +kernel
theorem d_M_same_65 : decode b_M_same 65 = .ok (.invokestatic 44, 3) := by decide +kernel
theorem d_M_same_68 : decode b_M_same 68 = .ok (.iload 7, 2) := by decide +kernel
theorem d_M_same_70 : decode b_M_same 70 = .ok (.invokestatic 75, 3) := by decide +kernel
theorem d_M_same_73 : decode b_M_same 73 = .ok (.aload_n 0, 1) := by decide +kernel
theorem d_M_same_74 : decode b_M_same 74 = .ok (.getfield 20, 3) := by decide +kernel
theorem d_M_same_77 : decode b_M_same 77 = .ok (.iload_n 3, 1) := by decide +kernel
theorem d_M_same_78 : decode b_M_same 78 = .ok (.iload 6, 2) := by decide +kernel
theorem d_M_same_80 : decode b_M_same 80 = .ok (.invokestatic 44, 3) := by decide +kernel
theorem d_M_same_83 : decode b_M_same 83 = .ok (.iload 7, 2) := by decide +kernel
theorem d_M_same_85 : decode b_M_same 85 = .ok (.invokestatic 75, 3) := by decide +kernel
theorem d_M_same_88 : decode b_M_same 88 = .ok (.if_icmp .ne 7, 3) := by decide +kernel
theorem d_M_same_91 : decode b_M_same 91 = .ok (.iconst 1, 1) := by decide +kernel
theorem d_M_same_92 : decode b_M_same 92 = .ok (.goto 4, 3) := by decide +kernel
theorem d_M_same_95 : decode b_M_same 95 = .ok (.iconst 0, 1) := by decide +kernel
theorem d_M_same_96 : decode b_M_same 96 = .ok (.istore 5, 2) := by decide +kernel
theorem d_M_same_98 : decode b_M_same 98 = .ok (.iinc 7 1, 3) := by decide +kernel
theorem d_M_same_101 : decode b_M_same 101 = .ok (.goto (-51), 3) := by decide +kernel
theorem d_M_same_104 : decode b_M_same 104 = .ok (.iload 5, 2) := by decide +kernel
theorem d_M_same_106 : decode b_M_same 106 = .ok (.ifCond .eq 35, 3) := by decide +kernel
theorem d_M_same_109 : decode b_M_same 109 = .ok (.lload_n 1, 1) := by decide +kernel
theorem d_M_same_110 : decode b_M_same 110 = .ok (.iload_n 3, 1) := by decide +kernel
theorem d_M_same_111 : decode b_M_same 111 = .ok (.iload 4, 2) := by decide +kernel
theorem d_M_same_113 : decode b_M_same 113 = .ok (.iconst 1, 1) := by decide +kernel
theorem d_M_same_114 : decode b_M_same 114 = .ok (.iadd, 1) := by decide +kernel
theorem d_M_same_115 : decode b_M_same 115 = .ok (.iload 6, 2) := by decide +kernel
theorem d_M_same_117 : decode b_M_same 117 = .ok (.invokestatic 71, 3) := by decide +kernel
theorem d_M_same_120 : decode b_M_same 120 = .ok (.aload_n 0, 1) := by decide +kernel
theorem d_M_same_121 : decode b_M_same 121 = .ok (.getfield 20, 3) := by decide +kernel
theorem d_M_same_124 : decode b_M_same 124 = .ok (.iload_n 3, 1) := by decide +kernel
theorem d_M_same_125 : decode b_M_same 125 = .ok (.iload 4, 2) := by decide +kernel
theorem d_M_same_127 : decode b_M_same 127 = .ok (.iconst 1, 1) := by decide +kernel
theorem d_M_same_128 : decode b_M_same 128 = .ok (.iadd, 1) := by decide +kernel
theorem d_M_same_129 : decode b_M_same 129 = .ok (.iload 6, 2) := by decide +kernel
theorem d_M_same_131 : decode b_M_same 131 = .ok (.invokestatic 71, 3) := by decide +kernel
theorem d_M_same_134 : decode b_M_same 134 = .ok (.if_icmp .ne 7, 3) := by decide +kernel
theorem d_M_same_137 : decode b_M_same 137 = .ok (.iconst 1, 1) := by decide +kernel
theorem d_M_same_138 : decode b_M_same 138 = .ok (.goto 4, 3) := by decide +kernel
theorem d_M_same_141 : decode b_M_same 141 = .ok (.iconst 0, 1) := by decide +kernel
theorem d_M_same_142 : decode b_M_same 142 = .ok (.istore 5, 2) := by decide +kernel
theorem d_M_same_144 : decode b_M_same 144 = .ok (.iinc 6 1, 3) := by decide +kernel
theorem d_M_same_147 : decode b_M_same 147 = .ok (.goto (-112), 3) := by decide +kernel
theorem d_M_same_150 : decode b_M_same 150 = .ok (.iload 5, 2) := by decide +kernel
theorem d_M_same_152 : decode b_M_same 152 = .ok (.ireturn, 1) := by decide +kernel
