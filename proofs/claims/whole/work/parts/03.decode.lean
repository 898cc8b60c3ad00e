theorem d_P_init_0 : decode b_P_init 0 = .ok (.aload_n 0, 1) := by decide +kernel
theorem d_P_init_1 : decode b_P_init 1 = .ok (.invokespecial 1, 3) := by decide +kernel
theorem d_P_init_4 : decode b_P_init 4 = .ok (.aload_n 0, 1) := by decide +kernel
theorem d_P_init_5 : decode b_P_init 5 = .ok (.iload_n 1, 1) := by decide +kernel
theorem d_P_init_6 : decode b_P_init 6 = .ok (.i2l, 1) := by decide +kernel
theorem d_P_init_7 : decode b_P_init 7 = .ok (.putfield 7, 3) := by decide +kernel
theorem d_P_init_10 : decode b_P_init 10 = .ok (.aload_n 0, 1) := by decide +kernel
theorem d_P_init_11 : decode b_P_init 11 = .ok (.iconst 0, 1) := by decide +kernel
theorem d_P_init_12 : decode b_P_init 12 = .ok (.putfield 13, 3) := by decide +kernel
theorem d_P_init_15 : decode b_P_init 15 = .ok (.aload_n 0, 1) := by decide +kernel
theorem d_P_init_16 : decode b_P_init 16 = .ok (.new 17, 3) := by decide +kernel
theorem d_P_init_19 : decode b_P_init 19 = .ok (.dup, 1) := by decide +kernel
theorem d_P_init_20 : decode b_P_init 20 = .ok (.invokespecial 19, 3) := by decide +kernel
theorem d_P_init_23 : decode b_P_init 23 = .ok (.putfield 20, 3) := by decide +kernel
theorem d_P_init_26 : decode b_P_init 26 = .ok (.aload_n 0, 1) := by decide +kernel
theorem d_P_init_27 : decode b_P_init 27 = .ok (.new 17, 3) := by decide +kernel
theorem d_P_init_30 : decode b_P_init 30 = .ok (.dup, 1) := by decide +kernel
theorem d_P_init_31 : decode b_P_init 31 = .ok (.invokespecial 19, 3) := by decide +kernel
theorem d_P_init_34 : decode b_P_init 34 = .ok (.putfield 24, 3) := by decide +kernel
theorem d_P_init_37 : decode b_P_init 37 = .ok (.aload_n 0, 1) := by decide +kernel
theorem d_P_init_38 : decode b_P_init 38 = .ok (.new 17, 3) := by decide +kernel
theorem d_P_init_41 : decode b_P_init 41 = .ok (.dup, 1) := by decide +kernel
theorem d_P_init_42 : decode b_P_init 42 = .ok (.invokespecial 19, 3) := by decide +kernel
theorem d_P_init_45 : decode b_P_init 45 = .ok (.putfield 27, 3) := by decide +kernel
theorem d_P_init_48 : decode b_P_init 48 = .ok (.aload_n 0, 1) := by decide +kernel
theorem d_P_init_49 : decode b_P_init 49 = .ok (.new 30, 3) := by decide +kernel
theorem d_P_init_52 : decode b_P_init 52 = .ok (.dup, 1) := by decide +kernel
theorem d_P_init_53 : decode b_P_init 53 = .ok (.invokespecial 32, 3) := by decide +kernel
theorem d_P_init_56 : decode b_P_init 56 = .ok (.putfield 33, 3) := by decide +kernel
theorem d_P_init_59 : decode b_P_init 59 = .ok (.return_, 1) := by decide +kernel
theorem d_P_seed_0 : decode b_P_seed 0 = .ok (.aload_n 0, 1) := by decide +kernel
theorem d_P_seed_1 : decode b_P_seed 1 = .ok (.getfield 7, 3) := by decide +kernel
theorem d_P_seed_4 : decode b_P_seed 4 = .ok (.lstore_n 3, 1) := by decide +kernel
theorem d_P_seed_5 : decode b_P_seed 5 = .ok (.aload_n 0, 1) := by decide +kernel
theorem d_P_seed_6 : decode b_P_seed 6 = .ok (.lload_n 1, 1) := by decide +kernel
theorem d_P_seed_7 : decode b_P_seed 7 = .ok (.putfield 7, 3) := by decide +kernel
theorem d_P_seed_10 : decode b_P_seed 10 = .ok (.lload_n 3, 1) := by decide +kernel
theorem d_P_seed_11 : decode b_P_seed 11 = .ok (.lreturn, 1) := by decide +kernel
theorem d_P_draw_0 : decode b_P_draw 0 = .ok (.iload_n 1, 1) := by decide +kernel
theorem d_P_draw_1 : decode b_P_draw 1 = .ok (.iload_n 2, 1) := by decide +kernel
theorem d_P_draw_2 : decode b_P_draw 2 = .ok (.invokestatic 37, 3) := by decide +kernel
theorem d_P_draw_5 : decode b_P_draw 5 = .ok (.ifCond .ne 6, 3) := by decide +kernel
theorem d_P_draw_8 : decode b_P_draw 8 = .ok (.bipush (-12), 2) := by decide +kernel
theorem d_P_draw_10 : decode b_P_draw 10 = .ok (.ireturn, 1) := by decide +kernel
theorem d_P_draw_11 : decode b_P_draw 11 = .ok (.aload_n 0, 1) := by decide +kernel
theorem d_P_draw_12 : decode b_P_draw 12 = .ok (.getfield 20, 3) := by decide +kernel
theorem d_P_draw_15 : decode b_P_draw 15 = .ok (.aload_n 0, 1) := by decide +kernel
theorem d_P_draw_16 : decode b_P_draw 16 = .ok (.getfield 7, 3) := by decide +kernel
theorem d_P_draw_19 : decode b_P_draw 19 = .ok (.iload_n 1, 1) := by decide +kernel
theorem d_P_draw_20 : decode b_P_draw 20 = .ok (.iload_n 2, 1) := by decide +kernel
theorem d_P_draw_21 : decode b_P_draw 21 = .ok (.iconst 1, 1) := by decide +kernel
theorem d_P_draw_22 : decode b_P_draw 22 = .ok (.iadd, 1) := by decide +kernel
theorem d_P_draw_23 : decode b_P_draw 23 = .ok (.invokevirtual 41, 3) := by decide +kernel
theorem d_P_draw_26 : decode b_P_draw 26 = .ok (.aload_n 0, 1) := by decide +kernel
theorem d_P_draw_27 : decode b_P_draw 27 = .ok (.aload_n 0, 1) := by decide +kernel
theorem d_P_draw_28 : decode b_P_draw 28 = .ok (.getfield 20, 3) := by decide +kernel
theorem d_P_draw_31 : decode b_P_draw 31 = .ok (.invokevirtual 45, 3) := by decide +kernel
theorem d_P_draw_34 : decode b_P_draw 34 = .ok (.putfield 13, 3) := by decide +kernel
theorem d_P_draw_37 : decode b_P_draw 37 = .ok (.aload_n 0, 1) := by decide +kernel
theorem d_P_draw_38 : decode b_P_draw 38 = .ok (.getfield 33, 3) := by decide +kernel
theorem d_P_draw_41 : decode b_P_draw 41 = .ok (.invokevirtual 49, 3) := by decide +kernel
theorem d_P_draw_44 : decode b_P_draw 44 = .ok (.aload_n 0, 1) := by decide +kernel
theorem d_P_draw_45 : decode b_P_draw 45 = .ok (.getfield 20, 3) := by decide +kernel
theorem d_P_draw_48 : decode b_P_draw 48 = .ok (.getfield 52, 3) := by decide +kernel
theorem d_P_draw_51 : decode b_P_draw 51 = .ok (.ireturn, 1) := by decide +kernel
theorem d_P_part_0 : decode b_P_part 0 = .ok (.aload_n 0, 1) := by decide +kernel
theorem d_P_part_1 : decode b_P_part 1 = .ok (.getfield 20, 3) := by decide +kernel
theorem d_P_part_4 : decode b_P_part 4 = .ok (.iload_n 1, 1) := by decide +kernel
theorem d_P_part_5 : decode b_P_part 5 = .ok (.invokevirtual 55, 3) := by decide +kernel
theorem d_P_part_8 : decode b_P_part 8 = .ok (.ifCond .ne 5, 3) := by decide +kernel
theorem d_P_part_11 : decode b_P_part 11 = .ok (.iconst (-1), 1) := by decide +kernel
theorem d_P_part_12 : decode b_P_part 12 = .ok (.ireturn, 1) := by decide +kernel
theorem d_P_part_13 : decode b_P_part 13 = .ok (.iload_n 2, 1) := by decide +kernel
theorem d_P_part_14 : decode b_P_part 14 = .ok (.ifCond .lt 8, 3) := by decide +kernel
theorem d_P_part_17 : decode b_P_part 17 = .ok (.iload_n 2, 1) := by decide +kernel
theorem d_P_part_18 : decode b_P_part 18 = .ok (.iconst 4, 1) := by decide +kernel
theorem d_P_part_19 : decode b_P_part 19 = .ok (.if_icmp .le 6, 3) := by decide +kernel
theorem d_P_part_22 : decode b_P_part 22 = .ok (.bipush (-12), 2) := by decide +kernel
theorem d_P_part_24 : decode b_P_part 24 = .ok (.ireturn, 1) := by decide +kernel
theorem d_P_part_25 : decode b_P_part 25 = .ok (.iload_n 2, 1) := by decide +kernel
theorem d_P_part_26 : decode b_P_part 26 = .ok (.ifCond .ne 20, 3) := by decide +kernel
theorem d_P_part_29 : decode b_P_part 29 = .ok (.aload_n 0, 1) := by decide +kernel
theorem d_P_part_30 : decode b_P_part 30 = .ok (.getfield 20, 3) := by decide +kernel
theorem d_P_part_33 : decode b_P_part 33 = .ok (.iload_n 1, 1) := by decide +kernel
theorem d_P_part_34 : decode b_P_part 34 = .ok (.invokevirtual 59, 3) := by decide +kernel
theorem d_P_part_37 : decode b_P_part 37 = .ok (.ifCond .eq 7, 3) := by decide +kernel
theorem d_P_part_40 : decode b_P_part 40 = .ok (.iconst 1, 1) := by decide +kernel
theorem d_P_part_41 : decode b_P_part 41 = .ok (.goto 4, 3) := by decide +kernel
theorem d_P_part_44 : decode b_P_part 44 = .ok (.iconst 0, 1) := by decide +kernel
theorem d_P_part_45 : decode b_P_part 45 = .ok (.ireturn, 1) := by decide +kernel
theorem d_P_part_46 : decode b_P_part 46 = .ok (.aload_n 0, 1) := by decide +kernel
theorem d_P_part_47 : decode b_P_part 47 = .ok (.getfield 20, 3) := by decide +kernel
theorem d_P_part_50 : decode b_P_part 50 = .ok (.iload_n 1, 1) := by decide +kernel
theorem d_P_part_51 : decode b_P_part 51 = .ok (.iload_n 2, 1) := by decide +kernel
theorem d_P_part_52 : decode b_P_part 52 = .ok (.invokevirtual 62, 3) := by decide +kernel
theorem d_P_part_55 : decode b_P_part 55 = .ok (.ireturn, 1) := by decide +kernel
theorem d_P_point_0 : decode b_P_point 0 = .ok (.aload_n 0, 1) := by decide +kernel
theorem d_P_point_1 : decode b_P_point 1 = .ok (.getfield 20, 3) := by decide +kernel
theorem d_P_point_4 : decode b_P_point 4 = .ok (.getfield 66, 3) := by decide +kernel
theorem d_P_point_7 : decode b_P_point 7 = .ok (.iconst 1, 1) := by decide +kernel
theorem d_P_point_8 : decode b_P_point 8 = .ok (.if_icmp .ne 14, 3) := by decide +kernel
theorem d_P_point_11 : decode b_P_point 11 = .ok (.aload_n 0, 1) := by decide +kernel
theorem d_P_point_12 : decode b_P_point 12 = .ok (.getfield 20, 3) := by decide +kernel
theorem d_P_point_15 : decode b_P_point 15 = .ok (.iload_n 1, 1) := by decide +kernel
theorem d_P_point_16 : decode b_P_point 16 = .ok (.invokevirtual 55, 3) := by decide +kernel
theorem d_P_point_19 : decode b_P_point 19 = .ok (.ifCond .ne 5, 3) := by decide +kernel
theorem d_P_point_22 : decode b_P_point 22 = .ok (.iconst (-1), 1) := by decide +kernel
theorem d_P_point_23 : decode b_P_point 23 = .ok (.ireturn, 1) := by decide +kernel
theorem d_P_point_24 : decode b_P_point 24 = .ok (.iload_n 2, 1) := by decide +kernel
theorem d_P_point_25 : decode b_P_point 25 = .ok (.ifCond .lt 19, 3) := by decide +kernel
theorem d_P_point_28 : decode b_P_point 28 = .ok (.iload_n 2, 1) := by decide +kernel
theorem d_P_point_29 : decode b_P_point 29 = .ok (.bipush 12, 2) := by decide +kernel
theorem d_P_point_31 : decode b_P_point 31 = .ok (.if_icmp .ge 13, 3) := by decide +kernel
theorem d_P_point_34 : decode b_P_point 34 = .ok (.iload_n 3, 1) := by decide +kernel
theorem d_P_point_35 : decode b_P_point 35 = .ok (.ifCond .lt 9, 3) := by decide +kernel
theorem d_P_point_38 : decode b_P_point 38 = .ok (.iload_n 3, 1) := by decide +kernel
theorem d_P_point_39 : decode b_P_point 39 = .ok (.bipush 20, 2) := by decide +kernel
theorem d_P_point_41 : decode b_P_point 41 = .ok (.if_icmp .lt 5, 3) := by decide +kernel
theorem d_P_point_44 : decode b_P_point 44 = .ok (.iconst (-1), 1) := by decide +kernel
theorem d_P_point_45 : decode b_P_point 45 = .ok (.ireturn, 1) := by decide +kernel
theorem d_P_point_46 : decode b_P_point 46 = .ok (.aload_n 0, 1) := by decide +kernel
theorem d_P_point_47 : decode b_P_point 47 = .ok (.getfield 20, 3) := by decide +kernel
theorem d_P_point_50 : decode b_P_point 50 = .ok (.iload_n 1, 1) := by decide +kernel
theorem d_P_point_51 : decode b_P_point 51 = .ok (.iconst 1, 1) := by decide +kernel
theorem d_P_point_52 : decode b_P_point 52 = .ok (.invokevirtual 62, 3) := by decide +kernel
theorem d_P_point_55 : decode b_P_point 55 = .ok (.bipush 10, 2) := by decide +kernel
theorem d_P_point_57 : decode b_P_point 57 = .ok (.irem, 1) := by decide +kernel
theorem d_P_point_58 : decode b_P_point 58 = .ok (.iload_n 2, 1) := by decide +kernel
theorem d_P_point_59 : decode b_P_point 59 = .ok (.iload_n 3, 1) := by decide +kernel
theorem d_P_point_60 : decode b_P_point 60 = .ok (.invokestatic 69, 3) := by decide +kernel
theorem d_P_point_63 : decode b_P_point 63 = .ok (.ifCond .eq 8, 3) := by decide +kernel
theorem d_P_point_66 : decode b_P_point 66 = .ok (.bipush 40, 2) := by decide +kernel
theorem d_P_point_68 : decode b_P_point 68 = .ok (.goto 6, 3) := by decide +kernel
theorem d_P_point_71 : decode b_P_point 71 = .ok (.sipush 200, 3) := by decide +kernel
theorem d_P_point_74 : decode b_P_point 74 = .ok (.istore 4, 2) := by decide +kernel
theorem d_P_point_76 : decode b_P_point 76 = .ok (.iload 4, 2) := by decide +kernel
theorem d_P_point_78 : decode b_P_point 78 = .ok (.aload_n 0, 1) := by decide +kernel
theorem d_P_point_79 : decode b_P_point 79 = .ok (.getfield 20, 3) := by decide +kernel
theorem d_P_point_82 : decode b_P_point 82 = .ok (.getfield 73, 3) := by decide +kernel
theorem d_P_point_85 : decode b_P_point 85 = .ok (.iload_n 1, 1) := by decide +kernel
theorem d_P_point_86 : decode b_P_point 86 = .ok (.iload_n 2, 1) := by decide +kernel
theorem d_P_point_87 : decode b_P_point 87 = .ok (.iload_n 3, 1) := by decide +kernel
theorem d_P_point_88 : decode b_P_point 88 = .ok (.invokestatic 76, 3) := by decide +kernel
theorem d_P_point_91 : decode b_P_point 91 = .ok (.iadd, 1) := by decide +kernel
theorem d_P_point_92 : decode b_P_point 92 = .ok (.ireturn, 1) := by decide +kernel
theorem d_P_verdict_0 : decode b_P_verdict 0 = .ok (.aload_n 0, 1) := by decide +kernel
theorem d_P_verdict_1 : decode b_P_verdict 1 = .ok (.getfield 20, 3) := by decide +kernel
theorem d_P_verdict_4 : decode b_P_verdict 4 = .ok (.invokevirtual 80, 3) := by decide +kernel
theorem d_P_verdict_7 : decode b_P_verdict 7 = .ok (.ifCond .eq 6, 3) := by decide +kernel
theorem d_P_verdict_10 : decode b_P_verdict 10 = .ok (.bipush (-13), 2) := by decide +kernel
theorem d_P_verdict_12 : decode b_P_verdict 12 = .ok (.ireturn, 1) := by decide +kernel
theorem d_P_verdict_13 : decode b_P_verdict 13 = .ok (.iload_n 1, 1) := by decide +kernel
theorem d_P_verdict_14 : decode b_P_verdict 14 = .ok (.ifCond .eq 17, 3) := by decide +kernel
theorem d_P_verdict_17 : decode b_P_verdict 17 = .ok (.iload_n 1, 1) := by decide +kernel
theorem d_P_verdict_18 : decode b_P_verdict 18 = .ok (.aload_n 0, 1) := by decide +kernel
theorem d_P_verdict_19 : decode b_P_verdict 19 = .ok (.getfield 20, 3) := by decide +kernel
theorem d_P_verdict_22 : decode b_P_verdict 22 = .ok (.invokevirtual 45, 3) := by decide +kernel
theorem d_P_verdict_25 : decode b_P_verdict 25 = .ok (.iconst (-1), 1) := by decide +kernel
theorem d_P_verdict_26 : decode b_P_verdict 26 = .ok (.ixor, 1) := by decide +kernel
theorem d_P_verdict_27 : decode b_P_verdict 27 = .ok (.iand, 1) := by decide +kernel
theorem d_P_verdict_28 : decode b_P_verdict 28 = .ok (.ifCond .eq 6, 3) := by decide +kernel
theorem d_P_verdict_31 : decode b_P_verdict 31 = .ok (.bipush (-12), 2) := by decide +kernel
theorem d_P_verdict_33 : decode b_P_verdict 33 = .ok (.ireturn, 1) := by decide +kernel
theorem d_P_verdict_34 : decode b_P_verdict 34 = .ok (.aload_n 0, 1) := by decide +kernel
theorem d_P_verdict_35 : decode b_P_verdict 35 = .ok (.getfield 33, 3) := by decide +kernel
theorem d_P_verdict_38 : decode b_P_verdict 38 = .ok (.iload_n 1, 1) := by decide +kernel
theorem d_P_verdict_39 : decode b_P_verdict 39 = .ok (.iload_n 2, 1) := by decide +kernel
theorem d_P_verdict_40 : decode b_P_verdict 40 = .ok (.invokevirtual 84, 3) := by decide +kernel
theorem d_P_verdict_43 : decode b_P_verdict 43 = .ok (.ifCond .eq 13, 3) := by decide +kernel
theorem d_P_verdict_46 : decode b_P_verdict 46 = .ok (.aload_n 0, 1) := by decide +kernel
theorem d_P_verdict_47 : decode b_P_verdict 47 = .ok (.getfield 33, 3) := by decide +kernel
theorem d_P_verdict_50 : decode b_P_verdict 50 = .ok (.getfield 88, 3) := by decide +kernel
theorem d_P_verdict_53 : decode b_P_verdict 53 = .ok (.goto 5, 3) := by decide +kernel
theorem d_P_verdict_56 : decode b_P_verdict 56 = .ok (.bipush (-14), 2) := by decide +kernel
theorem d_P_verdict_58 : decode b_P_verdict 58 = .ok (.ireturn, 1) := by decide +kernel
theorem d_P_shorter_0 : decode b_P_shorter 0 = .ok (.aload_n 0, 1) := by decide +kernel
theorem d_P_shorter_1 : decode b_P_shorter 1 = .ok (.getfield 20, 3) := by decide +kernel
theorem d_P_shorter_4 : decode b_P_shorter 4 = .ok (.invokevirtual 80, 3) := by decide +kernel
theorem d_P_shorter_7 : decode b_P_shorter 7 = .ok (.ifCond .eq 6, 3) := by decide +kernel
theorem d_P_shorter_10 : decode b_P_shorter 10 = .ok (.bipush (-13), 2) := by decide +kernel
theorem d_P_shorter_12 : decode b_P_shorter 12 = .ok (.ireturn, 1) := by decide +kernel
theorem d_P_shorter_13 : decode b_P_shorter 13 = .ok (.aload_n 0, 1) := by decide +kernel
theorem d_P_shorter_14 : decode b_P_shorter 14 = .ok (.aload_n 0, 1) := by decide +kernel
theorem d_P_shorter_15 : decode b_P_shorter 15 = .ok (.getfield 20, 3) := by decide +kernel
theorem d_P_shorter_18 : decode b_P_shorter 18 = .ok (.invokevirtual 45, 3) := by decide +kernel
theorem d_P_shorter_21 : decode b_P_shorter 21 = .ok (.putfield 13, 3) := by decide +kernel
theorem d_P_shorter_24 : decode b_P_shorter 24 = .ok (.aload_n 0, 1) := by decide +kernel
theorem d_P_shorter_25 : decode b_P_shorter 25 = .ok (.getfield 33, 3) := by decide +kernel
theorem d_P_shorter_28 : decode b_P_shorter 28 = .ok (.aload_n 0, 1) := by decide +kernel
theorem d_P_shorter_29 : decode b_P_shorter 29 = .ok (.getfield 13, 3) := by decide +kernel
theorem d_P_shorter_32 : decode b_P_shorter 32 = .ok (.invokevirtual 89, 3) := by decide +kernel
theorem d_P_shorter_35 : decode b_P_shorter 35 = .ok (.ifCond .eq 7, 3) := by decide +kernel
theorem d_P_shorter_38 : decode b_P_shorter 38 = .ok (.aload_n 0, 1) := by decide +kernel
theorem d_P_shorter_39 : decode b_P_shorter 39 = .ok (.invokevirtual 92, 3) := by decide +kernel
theorem d_P_shorter_42 : decode b_P_shorter 42 = .ok (.aload_n 0, 1) := by decide +kernel
theorem d_P_shorter_43 : decode b_P_shorter 43 = .ok (.getfield 13, 3) := by decide +kernel
theorem d_P_shorter_46 : decode b_P_shorter 46 = .ok (.invokestatic 95, 3) := by decide +kernel
theorem d_P_shorter_49 : decode b_P_shorter 49 = .ok (.ireturn, 1) := by decide +kernel
theorem d_P_left_0 : decode b_P_left 0 = .ok (.iconst 0, 1) := by decide +kernel
theorem d_P_left_1 : decode b_P_left 1 = .ok (.istore_n 2, 1) := by decide +kernel
theorem d_P_left_2 : decode b_P_left 2 = .ok (.iconst 0, 1) := by decide +kernel
theorem d_P_left_3 : decode b_P_left 3 = .ok (.istore_n 3, 1) := by decide +kernel
theorem d_P_left_4 : decode b_P_left 4 = .ok (.iload_n 3, 1) := by decide +kernel
theorem d_P_left_5 : decode b_P_left 5 = .ok (.bipush 16, 2) := by decide +kernel
theorem d_P_left_7 : decode b_P_left 7 = .ok (.if_icmp .ge 30, 3) := by decide +kernel
theorem d_P_left_10 : decode b_P_left 10 = .ok (.aload_n 0, 1) := by decide +kernel
theorem d_P_left_11 : decode b_P_left 11 = .ok (.getfield 13, 3) := by decide +kernel
theorem d_P_left_14 : decode b_P_left 14 = .ok (.iconst 1, 1) := by decide +kernel
theorem d_P_left_15 : decode b_P_left 15 = .ok (.iload_n 3, 1) := by decide +kernel
theorem d_P_left_16 : decode b_P_left 16 = .ok (.ishl, 1) := by decide +kernel
theorem d_P_left_17 : decode b_P_left 17 = .ok (.iand, 1) := by decide +kernel
theorem d_P_left_18 : decode b_P_left 18 = .ok (.ifCond .eq 13, 3) := by decide +kernel
theorem d_P_left_21 : decode b_P_left 21 = .ok (.iload_n 2, 1) := by decide +kernel
theorem d_P_left_22 : decode b_P_left 22 = .ok (.iload_n 1, 1) := by decide +kernel
theorem d_P_left_23 : decode b_P_left 23 = .ok (.if_icmp .ne 5, 3) := by decide +kernel
theorem d_P_left_26 : decode b_P_left 26 = .ok (.iload_n 3, 1) := by decide +kernel
theorem d_P_left_27 : decode b_P_left 27 = .ok (.ireturn, 1) := by decide +kernel
theorem d_P_left_28 : decode b_P_left 28 = .ok (.iinc 2 1, 3) := by decide +kernel
theorem d_P_left_31 : decode b_P_left 31 = .ok (.iinc 3 1, 3) := by decide +kernel
theorem d_P_left_34 : decode b_P_left 34 = .ok (.goto (-30), 3) := by decide +kernel
theorem d_P_left_37 : decode b_P_left 37 = .ok (.iconst (-1), 1) := by decide +kernel
theorem d_P_left_38 : decode b_P_left 38 = .ok (.ireturn, 1) := by decide +kernel
theorem d_P_minimal_0 : decode b_P_minimal 0 = .ok (.aload_n 0, 1) := by decide +kernel
theorem d_P_minimal_1 : decode b_P_minimal 1 = .ok (.getfield 20, 3) := by decide +kernel
theorem d_P_minimal_4 : decode b_P_minimal 4 = .ok (.invokevirtual 80, 3) := by decide +kernel
theorem d_P_minimal_7 : decode b_P_minimal 7 = .ok (.ifCond .ne 17, 3) := by decide +kernel
theorem d_P_minimal_10 : decode b_P_minimal 10 = .ok (.aload_n 0, 1) := by decide +kernel
theorem d_P_minimal_11 : decode b_P_minimal 11 = .ok (.getfield 33, 3) := by decide +kernel
theorem d_P_minimal_14 : decode b_P_minimal 14 = .ok (.aload_n 0, 1) := by decide +kernel
theorem d_P_minimal_15 : decode b_P_minimal 15 = .ok (.getfield 13, 3) := by decide +kernel
theorem d_P_minimal_18 : decode b_P_minimal 18 = .ok (.invokevirtual 89, 3) := by decide +kernel
theorem d_P_minimal_21 : decode b_P_minimal 21 = .ok (.ifCond .ne 5, 3) := by decide +kernel
theorem d_P_minimal_24 : decode b_P_minimal 24 = .ok (.iconst 0, 1) := by decide +kernel
theorem d_P_minimal_25 : decode b_P_minimal 25 = .ok (.ireturn, 1) := by decide +kernel
theorem d_P_minimal_26 : decode b_P_minimal 26 = .ok (.iconst 0, 1) := by decide +kernel
theorem d_P_minimal_27 : decode b_P_minimal 27 = .ok (.istore_n 1, 1) := by decide +kernel
theorem d_P_minimal_28 : decode b_P_minimal 28 = .ok (.iload_n 1, 1) := by decide +kernel
theorem d_P_minimal_29 : decode b_P_minimal 29 = .ok (.bipush 16, 2) := by decide +kernel
theorem d_P_minimal_31 : decode b_P_minimal 31 = .ok (.if_icmp .ge 19, 3) := by decide +kernel
theorem d_P_minimal_34 : decode b_P_minimal 34 = .ok (.aload_n 0, 1) := by decide +kernel
theorem d_P_minimal_35 : decode b_P_minimal 35 = .ok (.iload_n 1, 1) := by decide +kernel
theorem d_P_minimal_36 : decode b_P_minimal 36 = .ok (.invokevirtual 101, 3) := by decide +kernel
theorem d_P_minimal_39 : decode b_P_minimal 39 = .ok (.ifCond .eq 5, 3) := by decide +kernel
theorem d_P_minimal_42 : decode b_P_minimal 42 = .ok (.iconst 0, 1) := by decide +kernel
theorem d_P_minimal_43 : decode b_P_minimal 43 = .ok (.ireturn, 1) := by decide +kernel
theorem d_P_minimal_44 : decode b_P_minimal 44 = .ok (.iinc 1 1, 3) := by decide +kernel
theorem d_P_minimal_47 : decode b_P_minimal 47 = .ok (.goto (-19), 3) := by decide +kernel
theorem d_P_minimal_50 : decode b_P_minimal 50 = .ok (.iconst 1, 1) := by decide +kernel
theorem d_P_minimal_51 : decode b_P_minimal 51 = .ok (.ireturn, 1) := by decide +kernel
theorem d_P_faultless_0 : decode b_P_faultless 0 = .ok (.aload_n 0, 1) := by decide +kernel
theorem d_P_faultless_1 : decode b_P_faultless 1 = .ok (.getfield 20, 3) := by decide +kernel
theorem d_P_faultless_4 : decode b_P_faultless 4 = .ok (.getfield 66, 3) := by decide +kernel
theorem d_P_faultless_7 : decode b_P_faultless 7 = .ok (.iconst 3, 1) := by decide +kernel
theorem d_P_faultless_8 : decode b_P_faultless 8 = .ok (.if_icmp .ne 29, 3) := by decide +kernel
theorem d_P_faultless_11 : decode b_P_faultless 11 = .ok (.aload_n 0, 1) := by decide +kernel
theorem d_P_faultless_12 : decode b_P_faultless 12 = .ok (.getfield 20, 3) := by decide +kernel
theorem d_P_faultless_15 : decode b_P_faultless 15 = .ok (.iload_n 1, 1) := by decide +kernel
theorem d_P_faultless_16 : decode b_P_faultless 16 = .ok (.invokevirtual 55, 3) := by decide +kernel
theorem d_P_faultless_19 : decode b_P_faultless 19 = .ok (.ifCond .eq 18, 3) := by decide +kernel
theorem d_P_faultless_22 : decode b_P_faultless 22 = .ok (.aload_n 0, 1) := by decide +kernel
theorem d_P_faultless_23 : decode b_P_faultless 23 = .ok (.getfield 20, 3) := by decide +kernel
theorem d_P_faultless_26 : decode b_P_faultless 26 = .ok (.iload_n 1, 1) := by decide +kernel
theorem d_P_faultless_27 : decode b_P_faultless 27 = .ok (.invokevirtual 59, 3) := by decide +kernel
theorem d_P_faultless_30 : decode b_P_faultless 30 = .ok (.ifCond .ne 7, 3) := by decide +kernel
theorem d_P_faultless_33 : decode b_P_faultless 33 = .ok (.iconst 1, 1) := by decide +kernel
theorem d_P_faultless_34 : decode b_P_faultless 34 = .ok (.goto 4, 3) := by decide +kernel
theorem d_P_faultless_37 : decode b_P_faultless 37 = .ok (.iconst 0, 1) := by decide +kernel
theorem d_P_faultless_38 : decode b_P_faultless 38 = .ok (.ireturn, 1) := by decide +kernel
theorem d_P_same_0 : decode b_P_same 0 = .ok (.iload_n 3, 1) := by decide +kernel
theorem d_P_same_1 : decode b_P_same 1 = .ok (.iload 4, 2) := by decide +kernel
theorem d_P_same_3 : decode b_P_same 3 = .ok (.invokestatic 37, 3) := by decide +kernel
theorem d_P_same_6 : decode b_P_same 6 = .ok (.ifCond .ne 5, 3) := by decide +kernel
theorem d_P_same_9 : decode b_P_same 9 = .ok (.iconst 0, 1) := by decide +kernel
theorem d_P_same_10 : decode b_P_same 10 = .ok (.ireturn, 1) := by decide +kernel
theorem d_P_same_11 : decode b_P_same 11 = .ok (.aload_n 0, 1) := by decide +kernel
theorem d_P_same_12 : decode b_P_same 12 = .ok (.getfield 24, 3) := by decide +kernel
theorem d_P_same_15 : decode b_P_same 15 = .ok (.aload_n 0, 1) := by decide +kernel
theorem d_P_same_16 : decode b_P_same 16 = .ok (.getfield 7, 3) := by decide +kernel
theorem d_P_same_19 : decode b_P_same 19 = .ok (.iload_n 3, 1) := by decide +kernel
theorem d_P_same_20 : decode b_P_same 20 = .ok (.iload 4, 2) := by decide +kernel
theorem d_P_same_22 : decode b_P_same 22 = .ok (.iconst 1, 1) := by decide +kernel
theorem d_P_same_23 : decode b_P_same 23 = .ok (.iadd, 1) := by decide +kernel
theorem d_P_same_24 : decode b_P_same 24 = .ok (.invokevirtual 41, 3) := by decide +kernel
theorem d_P_same_27 : decode b_P_same 27 = .ok (.aload_n 0, 1) := by decide +kernel
theorem d_P_same_28 : decode b_P_same 28 = .ok (.getfield 27, 3) := by decide +kernel
theorem d_P_same_31 : decode b_P_same 31 = .ok (.lload_n 1, 1) := by decide +kernel
theorem d_P_same_32 : decode b_P_same 32 = .ok (.iload_n 3, 1) := by decide +kernel
theorem d_P_same_33 : decode b_P_same 33 = .ok (.iload 4, 2) := by decide +kernel
theorem d_P_same_35 : decode b_P_same 35 = .ok (.iconst 1, 1) := by decide +kernel
theorem d_P_same_36 : decode b_P_same 36 = .ok (.iadd, 1) := by decide +kernel
theorem d_P_same_37 : decode b_P_same 37 = .ok (.invokevirtual 41, 3) := by decide +kernel
theorem d_P_same_40 : decode b_P_same 40 = .ok (.aload_n 0, 1) := by decide +kernel
theorem d_P_same_41 : decode b_P_same 41 = .ok (.getfield 24, 3) := by decide +kernel
theorem d_P_same_44 : decode b_P_same 44 = .ok (.aload_n 0, 1) := by decide +kernel
theorem d_P_same_45 : decode b_P_same 45 = .ok (.getfield 27, 3) := by decide +kernel
theorem d_P_same_48 : decode b_P_same 48 = .ok (.invokestatic 104, 3) := by decide +kernel
theorem d_P_same_51 : decode b_P_same 51 = .ok (.ireturn, 1) := by decide +kernel
theorem d_P_isDrawable_0 : decode b_P_isDrawable 0 = .ok (.iload_n 0, 1) := by decide +kernel
theorem d_P_isDrawable_1 : decode b_P_isDrawable 1 = .ok (.ifCond .lt 22, 3) := by decide +kernel
theorem d_P_isDrawable_4 : decode b_P_isDrawable 4 = .ok (.iload_n 0, 1) := by decide +kernel
theorem d_P_isDrawable_5 : decode b_P_isDrawable 5 = .ok (.iconst 4, 1) := by decide +kernel
theorem d_P_isDrawable_6 : decode b_P_isDrawable 6 = .ok (.if_icmp .gt 17, 3) := by decide +kernel
theorem d_P_isDrawable_9 : decode b_P_isDrawable 9 = .ok (.iload_n 1, 1) := by decide +kernel
theorem d_P_isDrawable_10 : decode b_P_isDrawable 10 = .ok (.ifCond .lt 13, 3) := by decide +kernel
theorem d_P_isDrawable_13 : decode b_P_isDrawable 13 = .ok (.iload_n 1, 1) := by decide +kernel
theorem d_P_isDrawable_14 : decode b_P_isDrawable 14 = .ok (.bipush 16, 2) := by decide +kernel
theorem d_P_isDrawable_16 : decode b_P_isDrawable 16 = .ok (.if_icmp .ge 7, 3) := by decide +kernel
theorem d_P_isDrawable_19 : decode b_P_isDrawable 19 = .ok (.iconst 1, 1) := by decide +kernel
theorem d_P_isDrawable_20 : decode b_P_isDrawable 20 = .ok (.goto 4, 3) := by decide +kernel
theorem d_P_isDrawable_23 : decode b_P_isDrawable 23 = .ok (.iconst 0, 1) := by decide +kernel
theorem d_P_isDrawable_24 : decode b_P_isDrawable 24 = .ok (.ireturn, 1) := by decide +kernel
theorem d_P_leaveOutAll_0 : decode b_P_leaveOutAll 0 = .ok (.iconst 0, 1) := by decide +kernel
theorem d_P_leaveOutAll_1 : decode b_P_leaveOutAll 1 = .ok (.istore_n 1, 1) := by decide +kernel
theorem d_P_leaveOutAll_2 : decode b_P_leaveOutAll 2 = .ok (.iload_n 1, 1) := by decide +kernel
theorem d_P_leaveOutAll_3 : decode b_P_leaveOutAll 3 = .ok (.bipush 16, 2) := by decide +kernel
theorem d_P_leaveOutAll_5 : decode b_P_leaveOutAll 5 = .ok (.if_icmp .ge 27, 3) := by decide +kernel
theorem d_P_leaveOutAll_8 : decode b_P_leaveOutAll 8 = .ok (.aload_n 0, 1) := by decide +kernel
theorem d_P_leaveOutAll_9 : decode b_P_leaveOutAll 9 = .ok (.getfield 13, 3) := by decide +kernel
theorem d_P_leaveOutAll_12 : decode b_P_leaveOutAll 12 = .ok (.istore_n 2, 1) := by decide +kernel
theorem d_P_leaveOutAll_13 : decode b_P_leaveOutAll 13 = .ok (.aload_n 0, 1) := by decide +kernel
theorem d_P_leaveOutAll_14 : decode b_P_leaveOutAll 14 = .ok (.invokevirtual 108, 3) := by decide +kernel
theorem d_P_leaveOutAll_17 : decode b_P_leaveOutAll 17 = .ok (.aload_n 0, 1) := by decide +kernel
theorem d_P_leaveOutAll_18 : decode b_P_leaveOutAll 18 = .ok (.getfield 13, 3) := by decide +kernel
theorem d_P_leaveOutAll_21 : decode b_P_leaveOutAll 21 = .ok (.iload_n 2, 1) := by decide +kernel
theorem d_P_leaveOutAll_22 : decode b_P_leaveOutAll 22 = .ok (.if_icmp .ne 4, 3) := by decide +kernel
theorem d_P_leaveOutAll_25 : decode b_P_leaveOutAll 25 = .ok (.return_, 1) := by decide +kernel
theorem d_P_leaveOutAll_26 : decode b_P_leaveOutAll 26 = .ok (.iinc 1 1, 3) := by decide +kernel
theorem d_P_leaveOutAll_29 : decode b_P_leaveOutAll 29 = .ok (.goto (-27), 3) := by decide +kernel
theorem d_P_leaveOutAll_32 : decode b_P_leaveOutAll 32 = .ok (.return_, 1) := by decide +kernel
theorem d_P_goThrough_0 : decode b_P_goThrough 0 = .ok (.iconst 0, 1) := by decide +kernel
theorem d_P_goThrough_1 : decode b_P_goThrough 1 = .ok (.istore_n 1, 1) := by decide +kernel
theorem d_P_goThrough_2 : decode b_P_goThrough 2 = .ok (.iload_n 1, 1) := by decide +kernel
theorem d_P_goThrough_3 : decode b_P_goThrough 3 = .ok (.bipush 16, 2) := by decide +kernel
theorem d_P_goThrough_5 : decode b_P_goThrough 5 = .ok (.if_icmp .ge 31, 3) := by decide +kernel
theorem d_P_goThrough_8 : decode b_P_goThrough 8 = .ok (.aload_n 0, 1) := by decide +kernel
theorem d_P_goThrough_9 : decode b_P_goThrough 9 = .ok (.iload_n 1, 1) := by decide +kernel
theorem d_P_goThrough_10 : decode b_P_goThrough 10 = .ok (.invokevirtual 101, 3) := by decide +kernel
theorem d_P_goThrough_13 : decode b_P_goThrough 13 = .ok (.ifCond .eq 17, 3) := by decide +kernel
theorem d_P_goThrough_16 : decode b_P_goThrough 16 = .ok (.aload_n 0, 1) := by decide +kernel
theorem d_P_goThrough_17 : decode b_P_goThrough 17 = .ok (.dup, 1) := by decide +kernel
theorem d_P_goThrough_18 : decode b_P_goThrough 18 = .ok (.getfield 13, 3) := by decide +kernel
theorem d_P_goThrough_21 : decode b_P_goThrough 21 = .ok (.iconst 1, 1) := by decide +kernel
theorem d_P_goThrough_22 : decode b_P_goThrough 22 = .ok (.iload_n 1, 1) := by decide +kernel
theorem d_P_goThrough_23 : decode b_P_goThrough 23 = .ok (.ishl, 1) := by decide +kernel
theorem d_P_goThrough_24 : decode b_P_goThrough 24 = .ok (.iconst (-1), 1) := by decide +kernel
theorem d_P_goThrough_25 : decode b_P_goThrough 25 = .ok (.ixor, 1) := by decide +kernel
theorem d_P_goThrough_26 : decode b_P_goThrough 26 = .ok (.iand, 1) := by decide +kernel
theorem d_P_goThrough_27 : decode b_P_goThrough 27 = .ok (.putfield 13, 3) := by decide +kernel
theorem d_P_goThrough_30 : decode b_P_goThrough 30 = .ok (.iinc 1 1, 3) := by decide +kernel
theorem d_P_goThrough_33 : decode b_P_goThrough 33 = .ok (.goto (-31), 3) := by decide +kernel
theorem d_P_goThrough_36 : decode b_P_goThrough 36 = .ok (.return_, 1) := by decide +kernel
theorem d_P_canLeaveOut_0 : decode b_P_canLeaveOut 0 = .ok (.iconst 1, 1) := by decide +kernel
theorem d_P_canLeaveOut_1 : decode b_P_canLeaveOut 1 = .ok (.iload_n 1, 1) := by decide +kernel
theorem d_P_canLeaveOut_2 : decode b_P_canLeaveOut 2 = .ok (.ishl, 1) := by decide +kernel
theorem d_P_canLeaveOut_3 : decode b_P_canLeaveOut 3 = .ok (.istore_n 2, 1) := by decide +kernel
theorem d_P_canLeaveOut_4 : decode b_P_canLeaveOut 4 = .ok (.aload_n 0, 1) := by decide +kernel
theorem d_P_canLeaveOut_5 : decode b_P_canLeaveOut 5 = .ok (.getfield 13, 3) := by decide +kernel
theorem d_P_canLeaveOut_8 : decode b_P_canLeaveOut 8 = .ok (.iload_n 2, 1) := by decide +kernel
theorem d_P_canLeaveOut_9 : decode b_P_canLeaveOut 9 = .ok (.iand, 1) := by decide +kernel
theorem d_P_canLeaveOut_10 : decode b_P_canLeaveOut 10 = .ok (.ifCond .eq 25, 3) := by decide +kernel
theorem d_P_canLeaveOut_13 : decode b_P_canLeaveOut 13 = .ok (.aload_n 0, 1) := by decide +kernel
theorem d_P_canLeaveOut_14 : decode b_P_canLeaveOut 14 = .ok (.getfield 33, 3) := by decide +kernel
theorem d_P_canLeaveOut_17 : decode b_P_canLeaveOut 17 = .ok (.aload_n 0, 1) := by decide +kernel
theorem d_P_canLeaveOut_18 : decode b_P_canLeaveOut 18 = .ok (.getfield 13, 3) := by decide +kernel
theorem d_P_canLeaveOut_21 : decode b_P_canLeaveOut 21 = .ok (.iload_n 2, 1) := by decide +kernel
theorem d_P_canLeaveOut_22 : decode b_P_canLeaveOut 22 = .ok (.iconst (-1), 1) := by decide +kernel
theorem d_P_canLeaveOut_23 : decode b_P_canLeaveOut 23 = .ok (.ixor, 1) := by decide +kernel
theorem d_P_canLeaveOut_24 : decode b_P_canLeaveOut 24 = .ok (.iand, 1) := by decide +kernel
theorem d_P_canLeaveOut_25 : decode b_P_canLeaveOut 25 = .ok (.invokevirtual 89, 3) := by decide +kernel
theorem d_P_canLeaveOut_28 : decode b_P_canLeaveOut 28 = .ok (.ifCond .eq 7, 3) := by decide +kernel
theorem d_P_canLeaveOut_31 : decode b_P_canLeaveOut 31 = .ok (.iconst 1, 1) := by decide +kernel
theorem d_P_canLeaveOut_32 : decode b_P_canLeaveOut 32 = .ok (.goto 4, 3) := by decide +kernel
theorem d_P_canLeaveOut_35 : decode b_P_canLeaveOut 35 = .ok (.iconst 0, 1) := by decide +kernel
theorem d_P_canLeaveOut_36 : decode b_P_canLeaveOut 36 = .ok (.ireturn, 1) := by decide +kernel
theorem d_P_isInked_0 : decode b_P_isInked 0 = .ok (.iload_n 0, 1) := by decide +kernel
theorem d_P_isInked_1 : decode b_P_isInked 1 = .ok (.ifCond .lt 11, 3) := by decide +kernel
theorem d_P_isInked_4 : decode b_P_isInked 4 = .ok (.iload_n 0, 1) := by decide +kernel
theorem d_P_isInked_5 : decode b_P_isInked 5 = .ok (.getstatic 111, 3) := by decide +kernel
theorem d_P_isInked_8 : decode b_P_isInked 8 = .ok (.arraylength, 1) := by decide +kernel
theorem d_P_isInked_9 : decode b_P_isInked 9 = .ok (.if_icmp .lt 5, 3) := by decide +kernel
theorem d_P_isInked_12 : decode b_P_isInked 12 = .ok (.iconst 0, 1) := by decide +kernel
theorem d_P_isInked_13 : decode b_P_isInked 13 = .ok (.ireturn, 1) := by decide +kernel
theorem d_P_isInked_14 : decode b_P_isInked 14 = .ok (.iconst 3, 1) := by decide +kernel
theorem d_P_isInked_15 : decode b_P_isInked 15 = .ok (.iload_n 2, 1) := by decide +kernel
theorem d_P_isInked_16 : decode b_P_isInked 16 = .ok (.iconst 4, 1) := by decide +kernel
theorem d_P_isInked_17 : decode b_P_isInked 17 = .ok (.idiv, 1) := by decide +kernel
theorem d_P_isInked_18 : decode b_P_isInked 18 = .ok (.imul, 1) := by decide +kernel
theorem d_P_isInked_19 : decode b_P_isInked 19 = .ok (.iload_n 1, 1) := by decide +kernel
theorem d_P_isInked_20 : decode b_P_isInked 20 = .ok (.iconst 4, 1) := by decide +kernel
theorem d_P_isInked_21 : decode b_P_isInked 21 = .ok (.idiv, 1) := by decide +kernel
theorem d_P_isInked_22 : decode b_P_isInked 22 = .ok (.iadd, 1) := by decide +kernel
theorem d_P_isInked_23 : decode b_P_isInked 23 = .ok (.istore_n 3, 1) := by decide +kernel
theorem d_P_isInked_24 : decode b_P_isInked 24 = .ok (.getstatic 111, 3) := by decide +kernel
theorem d_P_isInked_27 : decode b_P_isInked 27 = .ok (.iload_n 0, 1) := by decide +kernel
theorem d_P_isInked_28 : decode b_P_isInked 28 = .ok (.iaload, 1) := by decide +kernel
theorem d_P_isInked_29 : decode b_P_isInked 29 = .ok (.bipush 14, 2) := by decide +kernel
theorem d_P_isInked_31 : decode b_P_isInked 31 = .ok (.iload_n 3, 1) := by decide +kernel
theorem d_P_isInked_32 : decode b_P_isInked 32 = .ok (.isub, 1) := by decide +kernel
theorem d_P_isInked_33 : decode b_P_isInked 33 = .ok (.ishr, 1) := by decide +kernel
theorem d_P_isInked_34 : decode b_P_isInked 34 = .ok (.iconst 1, 1) := by decide +kernel
theorem d_P_isInked_35 : decode b_P_isInked 35 = .ok (.iand, 1) := by decide +kernel
theorem d_P_isInked_36 : decode b_P_isInked 36 = .ok (.ifCond .eq 7, 3) := by decide +kernel
theorem d_P_isInked_39 : decode b_P_isInked 39 = .ok (.iconst 1, 1) := by decide +kernel
theorem d_P_isInked_40 : decode b_P_isInked 40 = .ok (.goto 4, 3) := by decide +kernel
theorem d_P_isInked_43 : decode b_P_isInked 43 = .ok (.iconst 0, 1) := by decide +kernel
theorem d_P_isInked_44 : decode b_P_isInked 44 = .ok (.ireturn, 1) := by decide +kernel
theorem d_P_noise_0 : decode b_P_noise 0 = .ok (.lload_n 0, 1) := by decide +kernel
theorem d_P_noise_1 : decode b_P_noise 1 = .ok (.iconst 5, 1) := by decide +kernel
theorem d_P_noise_2 : decode b_P_noise 2 = .ok (.iload_n 2, 1) := by decide +kernel
theorem d_P_noise_3 : decode b_P_noise 3 = .ok (.iadd, 1) := by decide +kernel
theorem d_P_noise_4 : decode b_P_noise 4 = .ok (.bipush 12, 2) := by decide +kernel
theorem d_P_noise_6 : decode b_P_noise 6 = .ok (.iload 4, 2) := by decide +kernel
theorem d_P_noise_8 : decode b_P_noise 8 = .ok (.imul, 1) := by decide +kernel
theorem d_P_noise_9 : decode b_P_noise 9 = .ok (.iload_n 3, 1) := by decide +kernel
theorem d_P_noise_10 : decode b_P_noise 10 = .ok (.iadd, 1) := by decide +kernel
theorem d_P_noise_11 : decode b_P_noise 11 = .ok (.invokestatic 115, 3) := by decide +kernel
theorem d_P_noise_14 : decode b_P_noise 14 = .ok (.lstore 5, 2) := by decide +kernel
theorem d_P_noise_16 : decode b_P_noise 16 = .ok (.ldc2_w 119, 3) := by decide +kernel
theorem d_P_noise_19 : decode b_P_noise 19 = .ok (.lload 5, 2) := by decide +kernel
theorem d_P_noise_21 : decode b_P_noise 21 = .ok (.iconst 1, 1) := by decide +kernel
theorem d_P_noise_22 : decode b_P_noise 22 = .ok (.lushr, 1) := by decide +kernel
theorem d_P_noise_23 : decode b_P_noise 23 = .ok (.ldc2_w 121, 3) := by decide +kernel
theorem d_P_noise_26 : decode b_P_noise 26 = .ok (.lrem, 1) := by decide +kernel
theorem d_P_noise_27 : decode b_P_noise 27 = .ok (.lmul, 1) := by decide +kernel
theorem d_P_noise_28 : decode b_P_noise 28 = .ok (.lload 5, 2) := by decide +kernel
theorem d_P_noise_30 : decode b_P_noise 30 = .ok (.lconst 1, 1) := by decide +kernel
theorem d_P_noise_31 : decode b_P_noise 31 = .ok (.land, 1) := by decide +kernel
theorem d_P_noise_32 : decode b_P_noise 32 = .ok (.ladd, 1) := by decide +kernel
theorem d_P_noise_33 : decode b_P_noise 33 = .ok (.ldc2_w 121, 3) := by decide +kernel
theorem d_P_noise_36 : decode b_P_noise 36 = .ok (.lrem, 1) := by decide +kernel
theorem d_P_noise_37 : decode b_P_noise 37 = .ok (.lstore 7, 2) := by decide +kernel
theorem d_P_noise_39 : decode b_P_noise 39 = .ok (.lload 7, 2) := by decide +kernel
theorem d_P_noise_41 : decode b_P_noise 41 = .ok (.l2i, 1) := by decide +kernel
theorem d_P_noise_42 : decode b_P_noise 42 = .ok (.bipush 16, 2) := by decide +kernel
theorem d_P_noise_44 : decode b_P_noise 44 = .ok (.isub, 1) := by decide +kernel
theorem d_P_noise_45 : decode b_P_noise 45 = .ok (.ireturn, 1) := by decide +kernel
theorem d_P_number_0 : decode b_P_number 0 = .ok (.lload_n 0, 1) := by decide +kernel
theorem d_P_number_1 : decode b_P_number 1 = .ok (.lconst 1, 1) := by decide +kernel
theorem d_P_number_2 : decode b_P_number 2 = .ok (.iload_n 3, 1) := by decide +kernel
theorem d_P_number_3 : decode b_P_number 3 = .ok (.i2l, 1) := by decide +kernel
theorem d_P_number_4 : decode b_P_number 4 = .ok (.ladd, 1) := by decide +kernel
theorem d_P_number_5 : decode b_P_number 5 = .ok (.ldc2_w 123, 3) := by decide +kernel
theorem d_P_number_8 : decode b_P_number 8 = .ok (.iload_n 2, 1) := by decide +kernel
theorem d_P_number_9 : decode b_P_number 9 = .ok (.i2l, 1) := by decide +kernel
theorem d_P_number_10 : decode b_P_number 10 = .ok (.lmul, 1) := by decide +kernel
theorem d_P_number_11 : decode b_P_number 11 = .ok (.ladd, 1) := by decide +kernel
theorem d_P_number_12 : decode b_P_number 12 = .ok (.ldc2_w 125, 3) := by decide +kernel
theorem d_P_number_15 : decode b_P_number 15 = .ok (.lmul, 1) := by decide +kernel
theorem d_P_number_16 : decode b_P_number 16 = .ok (.ladd, 1) := by decide +kernel
theorem d_P_number_17 : decode b_P_number 17 = .ok (.lstore 4, 2) := by decide +kernel
theorem d_P_number_19 : decode b_P_number 19 = .ok (.lload 4, 2) := by decide +kernel
theorem d_P_number_21 : decode b_P_number 21 = .ok (.lload 4, 2) := by decide +kernel
theorem d_P_number_23 : decode b_P_number 23 = .ok (.bipush 30, 2) := by decide +kernel
theorem d_P_number_25 : decode b_P_number 25 = .ok (.lushr, 1) := by decide +kernel
theorem d_P_number_26 : decode b_P_number 26 = .ok (.lxor, 1) := by decide +kernel
theorem d_P_number_27 : decode b_P_number 27 = .ok (.ldc2_w 127, 3) := by decide +kernel
theorem d_P_number_30 : decode b_P_number 30 = .ok (.lmul, 1) := by decide +kernel
theorem d_P_number_31 : decode b_P_number 31 = .ok (.lstore 4, 2) := by decide +kernel
theorem d_P_number_33 : decode b_P_number 33 = .ok (.lload 4, 2) := by decide +kernel
theorem d_P_number_35 : decode b_P_number 35 = .ok (.lload 4, 2) := by decide +kernel
theorem d_P_number_37 : decode b_P_number 37 = .ok (.bipush 27, 2) := by decide +kernel
theorem d_P_number_39 : decode b_P_number 39 = .ok (.lushr, 1) := by decide +kernel
theorem d_P_number_40 : decode b_P_number 40 = .ok (.lxor, 1) := by decide +kernel
theorem d_P_number_41 : decode b_P_number 41 = .ok (.ldc2_w 129, 3) := by decide +kernel
theorem d_P_number_44 : decode b_P_number 44 = .ok (.lmul, 1) := by decide +kernel
theorem d_P_number_45 : decode b_P_number 45 = .ok (.lstore 4, 2) := by decide +kernel
theorem d_P_number_47 : decode b_P_number 47 = .ok (.lload 4, 2) := by decide +kernel
theorem d_P_number_49 : decode b_P_number 49 = .ok (.lload 4, 2) := by decide +kernel
theorem d_P_number_51 : decode b_P_number 51 = .ok (.bipush 31, 2) := by decide +kernel
theorem d_P_number_53 : decode b_P_number 53 = .ok (.lushr, 1) := by decide +kernel
theorem d_P_number_54 : decode b_P_number 54 = .ok (.lxor, 1) := by decide +kernel
theorem d_P_number_55 : decode b_P_number 55 = .ok (.lreturn, 1) := by decide +kernel
theorem d_P_haveSameParts_0 : decode b_P_haveSameParts 0 = .ok (.iconst 0, 1) := by decide +kernel
theorem d_P_haveSameParts_1 : decode b_P_haveSameParts 1 = .ok (.istore_n 2, 1) := by decide +kernel
theorem d_P_haveSameParts_2 : decode b_P_haveSameParts 2 = .ok (.iload_n 2, 1) := by decide +kernel
theorem d_P_haveSameParts_3 : decode b_P_haveSameParts 3 = .ok (.aload_n 0, 1) := by decide +kernel
theorem d_P_haveSameParts_4 : decode b_P_haveSameParts 4 = .ok (.getfield 52, 3) := by decide +kernel
theorem d_P_haveSameParts_7 : decode b_P_haveSameParts 7 = .ok (.if_icmp .ge 39, 3) := by decide +kernel
theorem d_P_haveSameParts_10 : decode b_P_haveSameParts 10 = .ok (.iconst 1, 1) := by decide +kernel
theorem d_P_haveSameParts_11 : decode b_P_haveSameParts 11 = .ok (.istore_n 3, 1) := by decide +kernel
theorem d_P_haveSameParts_12 : decode b_P_haveSameParts 12 = .ok (.iload_n 3, 1) := by decide +kernel
theorem d_P_haveSameParts_13 : decode b_P_haveSameParts 13 = .ok (.iconst 4, 1) := by decide +kernel
theorem d_P_haveSameParts_14 : decode b_P_haveSameParts 14 = .ok (.if_icmp .gt 26, 3) := by decide +kernel
theorem d_P_haveSameParts_17 : decode b_P_haveSameParts 17 = .ok (.aload_n 0, 1) := by decide +kernel
theorem d_P_haveSameParts_18 : decode b_P_haveSameParts 18 = .ok (.iload_n 2, 1) := by decide +kernel
theorem d_P_haveSameParts_19 : decode b_P_haveSameParts 19 = .ok (.iload_n 3, 1) := by decide +kernel
theorem d_P_haveSameParts_20 : decode b_P_haveSameParts 20 = .ok (.invokevirtual 62, 3) := by decide +kernel
theorem d_P_haveSameParts_23 : decode b_P_haveSameParts 23 = .ok (.aload_n 1, 1) := by decide +kernel
theorem d_P_haveSameParts_24 : decode b_P_haveSameParts 24 = .ok (.iload_n 2, 1) := by decide +kernel
theorem d_P_haveSameParts_25 : decode b_P_haveSameParts 25 = .ok (.iload_n 3, 1) := by decide +kernel
theorem d_P_haveSameParts_26 : decode b_P_haveSameParts 26 = .ok (.invokevirtual 62, 3) := by decide +kernel
theorem d_P_haveSameParts_29 : decode b_P_haveSameParts 29 = .ok (.if_icmp .eq 5, 3) := by decide +kernel
theorem d_P_haveSameParts_32 : decode b_P_haveSameParts 32 = .ok (.iconst 0, 1) := by decide +kernel
theorem d_P_haveSameParts_33 : decode b_P_haveSameParts 33 = .ok (.ireturn, 1) := by decide +kernel
theorem d_P_haveSameParts_34 : decode b_P_haveSameParts 34 = .ok (.iinc 3 1, 3) := by decide +kernel
theorem d_P_haveSameParts_37 : decode b_P_haveSameParts 37 = .ok (.goto (-25), 3) := by decide +kernel
theorem d_P_haveSameParts_40 : decode b_P_haveSameParts 40 = .ok (.iinc 2 1, 3) := by decide +kernel
theorem d_P_haveSameParts_43 : decode b_P_haveSameParts 43 = .ok (.goto (-41), 3) := by decide +kernel
theorem d_P_haveSameParts_46 : decode b_P_haveSameParts 46 = .ok (.aload_n 0, 1) := by decide +kernel
theorem d_P_haveSameParts_47 : decode b_P_haveSameParts 47 = .ok (.getfield 131, 3) := by decide +kernel
theorem d_P_haveSameParts_50 : decode b_P_haveSameParts 50 = .ok (.aload_n 1, 1) := by decide +kernel
theorem d_P_haveSameParts_51 : decode b_P_haveSameParts 51 = .ok (.getfield 131, 3) := by decide +kernel
theorem d_P_haveSameParts_54 : decode b_P_haveSameParts 54 = .ok (.if_icmp .ne 7, 3) := by decide +kernel
theorem d_P_haveSameParts_57 : decode b_P_haveSameParts 57 = .ok (.iconst 1, 1) := by decide +kernel
theorem d_P_haveSameParts_58 : decode b_P_haveSameParts 58 = .ok (.goto 4, 3) := by decide +kernel
theorem d_P_haveSameParts_61 : decode b_P_haveSameParts 61 = .ok (.iconst 0, 1) := by decide +kernel
theorem d_P_haveSameParts_62 : decode b_P_haveSameParts 62 = .ok (.ireturn, 1) := by decide +kernel
theorem d_D_init_0 : decode b_D_init 0 = .ok (.aload_n 0, 1) := by decide +kernel
theorem d_D_init_1 : decode b_D_init 1 = .ok (.invokespecial 3, 3) := by decide +kernel
theorem d_D_init_4 : decode b_D_init 4 = .ok (.aload_n 0, 1) := by decide +kernel
theorem d_D_init_5 : decode b_D_init 5 = .ok (.bipush 16, 2) := by decide +kernel
theorem d_D_init_7 : decode b_D_init 7 = .ok (.newarray .long, 2) := by decide +kernel
theorem d_D_init_9 : decode b_D_init 9 = .ok (.putfield 9, 3) := by decide +kernel
theorem d_D_init_12 : decode b_D_init 12 = .ok (.aload_n 0, 1) := by decide +kernel
theorem d_D_init_13 : decode b_D_init 13 = .ok (.lconst 0, 1) := by decide +kernel
theorem d_D_init_14 : decode b_D_init 14 = .ok (.putfield 15, 3) := by decide +kernel
theorem d_D_init_17 : decode b_D_init 17 = .ok (.aload_n 0, 1) := by decide +kernel
theorem d_D_init_18 : decode b_D_init 18 = .ok (.iconst (-1), 1) := by decide +kernel
theorem d_D_init_19 : decode b_D_init 19 = .ok (.putfield 19, 3) := by decide +kernel
theorem d_D_init_22 : decode b_D_init 22 = .ok (.aload_n 0, 1) := by decide +kernel
theorem d_D_init_23 : decode b_D_init 23 = .ok (.iconst 0, 1) := by decide +kernel
theorem d_D_init_24 : decode b_D_init 24 = .ok (.putfield 23, 3) := by decide +kernel
theorem d_D_init_27 : decode b_D_init 27 = .ok (.aload_n 0, 1) := by decide +kernel
theorem d_D_init_28 : decode b_D_init 28 = .ok (.iconst 0, 1) := by decide +kernel
theorem d_D_init_29 : decode b_D_init 29 = .ok (.putfield 26, 3) := by decide +kernel
theorem d_D_init_32 : decode b_D_init 32 = .ok (.return_, 1) := by decide +kernel
theorem d_D_fill_0 : decode b_D_fill 0 = .ok (.aload_n 0, 1) := by decide +kernel
theorem d_D_fill_1 : decode b_D_fill 1 = .ok (.lload_n 1, 1) := by decide +kernel
theorem d_D_fill_2 : decode b_D_fill 2 = .ok (.putfield 15, 3) := by decide +kernel
theorem d_D_fill_5 : decode b_D_fill 5 = .ok (.aload_n 0, 1) := by decide +kernel
theorem d_D_fill_6 : decode b_D_fill 6 = .ok (.iload_n 3, 1) := by decide +kernel
theorem d_D_fill_7 : decode b_D_fill 7 = .ok (.putfield 19, 3) := by decide +kernel
theorem d_D_fill_10 : decode b_D_fill 10 = .ok (.aload_n 0, 1) := by decide +kernel
theorem d_D_fill_11 : decode b_D_fill 11 = .ok (.iconst 0, 1) := by decide +kernel
theorem d_D_fill_12 : decode b_D_fill 12 = .ok (.iload 4, 2) := by decide +kernel
theorem d_D_fill_14 : decode b_D_fill 14 = .ok (.bipush 16, 2) := by decide +kernel
theorem d_D_fill_16 : decode b_D_fill 16 = .ok (.invokestatic 29, 3) := by decide +kernel
theorem d_D_fill_19 : decode b_D_fill 19 = .ok (.invokestatic 35, 3) := by decide +kernel
theorem d_D_fill_22 : decode b_D_fill 22 = .ok (.putfield 23, 3) := by decide +kernel
theorem d_D_fill_25 : decode b_D_fill 25 = .ok (.iconst 0, 1) := by decide +kernel
theorem d_D_fill_26 : decode b_D_fill 26 = .ok (.istore 5, 2) := by decide +kernel
theorem d_D_fill_28 : decode b_D_fill 28 = .ok (.iload 5, 2) := by decide +kernel
theorem d_D_fill_30 : decode b_D_fill 30 = .ok (.aload_n 0, 1) := by decide +kernel
theorem d_D_fill_31 : decode b_D_fill 31 = .ok (.getfield 23, 3) := by decide +kernel
theorem d_D_fill_34 : decode b_D_fill 34 = .ok (.if_icmp .ge 29, 3) := by decide +kernel
theorem d_D_fill_37 : decode b_D_fill 37 = .ok (.aload_n 0, 1) := by decide +kernel
theorem d_D_fill_38 : decode b_D_fill 38 = .ok (.getfield 9, 3) := by decide +kernel
theorem d_D_fill_41 : decode b_D_fill 41 = .ok (.iload 5, 2) := by decide +kernel
theorem d_D_fill_43 : decode b_D_fill 43 = .ok (.aload_n 0, 1) := by decide +kernel
theorem d_D_fill_44 : decode b_D_fill 44 = .ok (.getfield 15, 3) := by decide +kernel
theorem d_D_fill_47 : decode b_D_fill 47 = .ok (.aload_n 0, 1) := by decide +kernel
theorem d_D_fill_48 : decode b_D_fill 48 = .ok (.getfield 19, 3) := by decide +kernel
theorem d_D_fill_51 : decode b_D_fill 51 = .ok (.iload 5, 2) := by decide +kernel
theorem d_D_fill_53 : decode b_D_fill 53 = .ok (.invokestatic 38, 3) := by decide +kernel
theorem d_D_fill_56 : decode b_D_fill 56 = .ok (.lastore, 1) := by decide +kernel
theorem d_D_fill_57 : decode b_D_fill 57 = .ok (.iinc 5 1, 3) := by decide +kernel
theorem d_D_fill_60 : decode b_D_fill 60 = .ok (.goto (-32), 3) := by decide +kernel
theorem d_D_fill_63 : decode b_D_fill 63 = .ok (.aload_n 0, 1) := by decide +kernel
theorem d_D_fill_64 : decode b_D_fill 64 = .ok (.aload_n 0, 1) := by decide +kernel
theorem d_D_fill_65 : decode b_D_fill 65 = .ok (.getfield 19, 3) := by decide +kernel
theorem d_D_fill_68 : decode b_D_fill 68 = .ok (.iconst 3, 1) := by decide +kernel
theorem d_D_fill_69 : decode b_D_fill 69 = .ok (.if_icmp .ne 10, 3) := by decide +kernel
theorem d_D_fill_72 : decode b_D_fill 72 = .ok (.aload_n 0, 1) := by decide +kernel
theorem d_D_fill_73 : decode b_D_fill 73 = .ok (.invokevirtual 42, 3) := by decide +kernel
theorem d_D_fill_76 : decode b_D_fill 76 = .ok (.goto 4, 3) := by decide +kernel
theorem d_D_fill_79 : decode b_D_fill 79 = .ok (.iconst 0, 1) := by decide +kernel
theorem d_D_fill_80 : decode b_D_fill 80 = .ok (.putfield 26, 3) := by decide +kernel
theorem d_D_fill_83 : decode b_D_fill 83 = .ok (.return_, 1) := by decide +kernel
theorem d_D_isEmpty_0 : decode b_D_isEmpty 0 = .ok (.aload_n 0, 1) := by decide +kernel
theorem d_D_isEmpty_1 : decode b_D_isEmpty 1 = .ok (.getfield 23, 3) := by decide +kernel
theorem d_D_isEmpty_4 : decode b_D_isEmpty 4 = .ok (.ifCond .ne 7, 3) := by decide +kernel
theorem d_D_isEmpty_7 : decode b_D_isEmpty 7 = .ok (.iconst 1, 1) := by decide +kernel
theorem d_D_isEmpty_8 : decode b_D_isEmpty 8 = .ok (.goto 4, 3) := by decide +kernel
theorem d_D_isEmpty_11 : decode b_D_isEmpty 11 = .ok (.iconst 0, 1) := by decide +kernel
theorem d_D_isEmpty_12 : decode b_D_isEmpty 12 = .ok (.ireturn, 1) := by decide +kernel
theorem d_D_has_0 : decode b_D_has 0 = .ok (.iload_n 1, 1) := by decide +kernel
theorem d_D_has_1 : decode b_D_has 1 = .ok (.ifCond .lt 15, 3) := by decide +kernel
theorem d_D_has_4 : decode b_D_has 4 = .ok (.iload_n 1, 1) := by decide +kernel
theorem d_D_has_5 : decode b_D_has 5 = .ok (.aload_n 0, 1) := by decide +kernel
theorem d_D_has_6 : decode b_D_has 6 = .ok (.getfield 23, 3) := by decide +kernel
theorem d_D_has_9 : decode b_D_has 9 = .ok (.if_icmp .ge 7, 3) := by decide +kernel
theorem d_D_has_12 : decode b_D_has 12 = .ok (.iconst 1, 1) := by decide +kernel
theorem d_D_has_13 : decode b_D_has 13 = .ok (.goto 4, 3) := by decide +kernel
theorem d_D_has_16 : decode b_D_has 16 = .ok (.iconst 0, 1) := by decide +kernel
theorem d_D_has_17 : decode b_D_has 17 = .ok (.ireturn, 1) := by decide +kernel
theorem d_D_allBits_0 : decode b_D_allBits 0 = .ok (.iconst 1, 1) := by decide +kernel
theorem d_D_allBits_1 : decode b_D_allBits 1 = .ok (.aload_n 0, 1) := by decide +kernel
theorem d_D_allBits_2 : decode b_D_allBits 2 = .ok (.getfield 23, 3) := by decide +kernel
theorem d_D_allBits_5 : decode b_D_allBits 5 = .ok (.ishl, 1) := by decide +kernel
theorem d_D_allBits_6 : decode b_D_allBits 6 = .ok (.iconst 1, 1) := by decide +kernel
theorem d_D_allBits_7 : decode b_D_allBits 7 = .ok (.isub, 1) := by decide +kernel
theorem d_D_allBits_8 : decode b_D_allBits 8 = .ok (.ireturn, 1) := by decide +kernel
theorem d_D_hasFaults_0 : decode b_D_hasFaults 0 = .ok (.aload_n 0, 1) := by decide +kernel
theorem d_D_hasFaults_1 : decode b_D_hasFaults 1 = .ok (.iload_n 1, 1) := by decide +kernel
theorem d_D_hasFaults_2 : decode b_D_hasFaults 2 = .ok (.invokevirtual 46, 3) := by decide +kernel
theorem d_D_hasFaults_5 : decode b_D_hasFaults 5 = .ok (.ifCond .eq 18, 3) := by decide +kernel
theorem d_D_hasFaults_8 : decode b_D_hasFaults 8 = .ok (.aload_n 0, 1) := by decide +kernel
theorem d_D_hasFaults_9 : decode b_D_hasFaults 9 = .ok (.getfield 26, 3) := by decide +kernel
theorem d_D_hasFaults_12 : decode b_D_hasFaults 12 = .ok (.iload_n 1, 1) := by decide +kernel
theorem d_D_hasFaults_13 : decode b_D_hasFaults 13 = .ok (.ishr, 1) := by decide +kernel
theorem d_D_hasFaults_14 : decode b_D_hasFaults 14 = .ok (.iconst 1, 1) := by decide +kernel
theorem d_D_hasFaults_15 : decode b_D_hasFaults 15 = .ok (.iand, 1) := by decide +kernel
theorem d_D_hasFaults_16 : decode b_D_hasFaults 16 = .ok (.ifCond .eq 7, 3) := by decide +kernel
theorem d_D_hasFaults_19 : decode b_D_hasFaults 19 = .ok (.iconst 1, 1) := by decide +kernel
theorem d_D_hasFaults_20 : decode b_D_hasFaults 20 = .ok (.goto 4, 3) := by decide +kernel
theorem d_D_hasFaults_23 : decode b_D_hasFaults 23 = .ok (.iconst 0, 1) := by decide +kernel
theorem d_D_hasFaults_24 : decode b_D_hasFaults 24 = .ok (.ireturn, 1) := by decide +kernel
theorem d_D_fact_0 : decode b_D_fact 0 = .ok (.aload_n 0, 1) := by decide +kernel
theorem d_D_fact_1 : decode b_D_fact 1 = .ok (.iload_n 1, 1) := by decide +kernel
theorem d_D_fact_2 : decode b_D_fact 2 = .ok (.invokevirtual 46, 3) := by decide +kernel
theorem d_D_fact_5 : decode b_D_fact 5 = .ok (.ifCond .ne 5, 3) := by decide +kernel
theorem d_D_fact_8 : decode b_D_fact 8 = .ok (.iconst (-1), 1) := by decide +kernel
theorem d_D_fact_9 : decode b_D_fact 9 = .ok (.ireturn, 1) := by decide +kernel
theorem d_D_fact_10 : decode b_D_fact 10 = .ok (.aload_n 0, 1) := by decide +kernel
theorem d_D_fact_11 : decode b_D_fact 11 = .ok (.getfield 9, 3) := by decide +kernel
theorem d_D_fact_14 : decode b_D_fact 14 = .ok (.iload_n 1, 1) := by decide +kernel
theorem d_D_fact_15 : decode b_D_fact 15 = .ok (.laload, 1) := by decide +kernel
theorem d_D_fact_16 : decode b_D_fact 16 = .ok (.lstore_n 3, 1) := by decide +kernel
theorem d_D_fact_17 : decode b_D_fact 17 = .ok (.iload_n 2, 1) := by decide +kernel
theorem d_D_fact_18 : decode b_D_fact 18 = .ok (.tableswitch 77 1 4 #[30, 47, 57, 67], 30) := by decide +kernel
theorem d_D_fact_48 : decode b_D_fact 48 = .ok (.ldc2_w 50, 3) := by decide +kernel
theorem d_D_fact_51 : decode b_D_fact 51 = .ok (.lload_n 3, 1) := by decide +kernel
theorem d_D_fact_52 : decode b_D_fact 52 = .ok (.iconst 1, 1) := by decide +kernel
theorem d_D_fact_53 : decode b_D_fact 53 = .ok (.lushr, 1) := by decide +kernel
theorem d_D_fact_54 : decode b_D_fact 54 = .ok (.ldc2_w 52, 3) := by decide +kernel
theorem d_D_fact_57 : decode b_D_fact 57 = .ok (.lrem, 1) := by decide +kernel
theorem d_D_fact_58 : decode b_D_fact 58 = .ok (.lmul, 1) := by decide +kernel
theorem d_D_fact_59 : decode b_D_fact 59 = .ok (.lload_n 3, 1) := by decide +kernel
theorem d_D_fact_60 : decode b_D_fact 60 = .ok (.lconst 1, 1) := by decide +kernel
theorem d_D_fact_61 : decode b_D_fact 61 = .ok (.land, 1) := by decide +kernel
theorem d_D_fact_62 : decode b_D_fact 62 = .ok (.ladd, 1) := by decide +kernel
theorem d_D_fact_63 : decode b_D_fact 63 = .ok (.l2i, 1) := by decide +kernel
theorem d_D_fact_64 : decode b_D_fact 64 = .ok (.ireturn, 1) := by decide +kernel
theorem d_D_fact_65 : decode b_D_fact 65 = .ok (.lload_n 3, 1) := by decide +kernel
theorem d_D_fact_66 : decode b_D_fact 66 = .ok (.bipush 8, 2) := by decide +kernel
theorem d_D_fact_68 : decode b_D_fact 68 = .ok (.lushr, 1) := by decide +kernel
theorem d_D_fact_69 : decode b_D_fact 69 = .ok (.ldc2_w 54, 3) := by decide +kernel
theorem d_D_fact_72 : decode b_D_fact 72 = .ok (.lrem, 1) := by decide +kernel
theorem d_D_fact_73 : decode b_D_fact 73 = .ok (.l2i, 1) := by decide +kernel
theorem d_D_fact_74 : decode b_D_fact 74 = .ok (.ireturn, 1) := by decide +kernel
theorem d_D_fact_75 : decode b_D_fact 75 = .ok (.lload_n 3, 1) := by decide +kernel
theorem d_D_fact_76 : decode b_D_fact 76 = .ok (.bipush 24, 2) := by decide +kernel
theorem d_D_fact_78 : decode b_D_fact 78 = .ok (.lushr, 1) := by decide +kernel
theorem d_D_fact_79 : decode b_D_fact 79 = .ok (.ldc2_w 56, 3) := by decide +kernel
theorem d_D_fact_82 : decode b_D_fact 82 = .ok (.lrem, 1) := by decide +kernel
theorem d_D_fact_83 : decode b_D_fact 83 = .ok (.l2i, 1) := by decide +kernel
theorem d_D_fact_84 : decode b_D_fact 84 = .ok (.ireturn, 1) := by decide +kernel
theorem d_D_fact_85 : decode b_D_fact 85 = .ok (.lload_n 3, 1) := by decide +kernel
theorem d_D_fact_86 : decode b_D_fact 86 = .ok (.bipush 40, 2) := by decide +kernel
theorem d_D_fact_88 : decode b_D_fact 88 = .ok (.lushr, 1) := by decide +kernel
theorem d_D_fact_89 : decode b_D_fact 89 = .ok (.ldc2_w 50, 3) := by decide +kernel
theorem d_D_fact_92 : decode b_D_fact 92 = .ok (.lrem, 1) := by decide +kernel
theorem d_D_fact_93 : decode b_D_fact 93 = .ok (.l2i, 1) := by decide +kernel
theorem d_D_fact_94 : decode b_D_fact 94 = .ok (.ireturn, 1) := by decide +kernel
theorem d_D_fact_95 : decode b_D_fact 95 = .ok (.iconst (-1), 1) := by decide +kernel
theorem d_D_fact_96 : decode b_D_fact 96 = .ok (.ireturn, 1) := by decide +kernel
theorem d_D_greaterHalf_0 : decode b_D_greaterHalf 0 = .ok (.iconst 0, 1) := by decide +kernel
theorem d_D_greaterHalf_1 : decode b_D_greaterHalf 1 = .ok (.istore_n 1, 1) := by decide +kernel
theorem d_D_greaterHalf_2 : decode b_D_greaterHalf 2 = .ok (.iconst 0, 1) := by decide +kernel
theorem d_D_greaterHalf_3 : decode b_D_greaterHalf 3 = .ok (.istore_n 2, 1) := by decide +kernel
theorem d_D_greaterHalf_4 : decode b_D_greaterHalf 4 = .ok (.iload_n 2, 1) := by decide +kernel
theorem d_D_greaterHalf_5 : decode b_D_greaterHalf 5 = .ok (.aload_n 0, 1) := by decide +kernel
theorem d_D_greaterHalf_6 : decode b_D_greaterHalf 6 = .ok (.getfield 23, 3) := by decide +kernel
theorem d_D_greaterHalf_9 : decode b_D_greaterHalf 9 = .ok (.if_icmp .ge 29, 3) := by decide +kernel
theorem d_D_greaterHalf_12 : decode b_D_greaterHalf 12 = .ok (.aload_n 0, 1) := by decide +kernel
theorem d_D_greaterHalf_13 : decode b_D_greaterHalf 13 = .ok (.iload_n 2, 1) := by decide +kernel
theorem d_D_greaterHalf_14 : decode b_D_greaterHalf 14 = .ok (.invokevirtual 58, 3) := by decide +kernel
theorem d_D_greaterHalf_17 : decode b_D_greaterHalf 17 = .ok (.aload_n 0, 1) := by decide +kernel
theorem d_D_greaterHalf_18 : decode b_D_greaterHalf 18 = .ok (.getfield 23, 3) := by decide +kernel
theorem d_D_greaterHalf_21 : decode b_D_greaterHalf 21 = .ok (.iconst 2, 1) := by decide +kernel
theorem d_D_greaterHalf_22 : decode b_D_greaterHalf 22 = .ok (.idiv, 1) := by decide +kernel
theorem d_D_greaterHalf_23 : decode b_D_greaterHalf 23 = .ok (.if_icmp .ge 9, 3) := by decide +kernel
theorem d_D_greaterHalf_26 : decode b_D_greaterHalf 26 = .ok (.iload_n 1, 1) := by decide +kernel
theorem d_D_greaterHalf_27 : decode b_D_greaterHalf 27 = .ok (.iconst 1, 1) := by decide +kernel
theorem d_D_greaterHalf_28 : decode b_D_greaterHalf 28 = .ok (.iload_n 2, 1) := by decide +kernel
theorem d_D_greaterHalf_29 : decode b_D_greaterHalf 29 = .ok (.ishl, 1) := by decide +kernel
theorem d_D_greaterHalf_30 : decode b_D_greaterHalf 30 = .ok (.ior, 1) := by decide +kernel
theorem d_D_greaterHalf_31 : decode b_D_greaterHalf 31 = .ok (.istore_n 1, 1) := by decide +kernel
theorem d_D_greaterHalf_32 : decode b_D_greaterHalf 32 = .ok (.iinc 2 1, 3) := by decide +kernel
theorem d_D_greaterHalf_35 : decode b_D_greaterHalf 35 = .ok (.goto (-31), 3) := by decide +kernel
theorem d_D_greaterHalf_38 : decode b_D_greaterHalf 38 = .ok (.iload_n 1, 1) := by decide +kernel
theorem d_D_greaterHalf_39 : decode b_D_greaterHalf 39 = .ok (.ireturn, 1) := by decide +kernel
theorem d_D_countAbove_0 : decode b_D_countAbove 0 = .ok (.iconst 0, 1) := by decide +kernel
theorem d_D_countAbove_1 : decode b_D_countAbove 1 = .ok (.istore_n 2, 1) := by decide +kernel
theorem d_D_countAbove_2 : decode b_D_countAbove 2 = .ok (.iconst 0, 1) := by decide +kernel
theorem d_D_countAbove_3 : decode b_D_countAbove 3 = .ok (.istore_n 3, 1) := by decide +kernel
theorem d_D_countAbove_4 : decode b_D_countAbove 4 = .ok (.iload_n 3, 1) := by decide +kernel
theorem d_D_countAbove_5 : decode b_D_countAbove 5 = .ok (.aload_n 0, 1) := by decide +kernel
theorem d_D_countAbove_6 : decode b_D_countAbove 6 = .ok (.getfield 23, 3) := by decide +kernel
theorem d_D_countAbove_9 : decode b_D_countAbove 9 = .ok (.if_icmp .ge 21, 3) := by decide +kernel
theorem d_D_countAbove_12 : decode b_D_countAbove 12 = .ok (.aload_n 0, 1) := by decide +kernel
theorem d_D_countAbove_13 : decode b_D_countAbove 13 = .ok (.iload_n 3, 1) := by decide +kernel
theorem d_D_countAbove_14 : decode b_D_countAbove 14 = .ok (.iload_n 1, 1) := by decide +kernel
theorem d_D_countAbove_15 : decode b_D_countAbove 15 = .ok (.invokevirtual 62, 3) := by decide +kernel
theorem d_D_countAbove_18 : decode b_D_countAbove 18 = .ok (.ifCond .eq 6, 3) := by decide +kernel
theorem d_D_countAbove_21 : decode b_D_countAbove 21 = .ok (.iinc 2 1, 3) := by decide +kernel
theorem d_D_countAbove_24 : decode b_D_countAbove 24 = .ok (.iinc 3 1, 3) := by decide +kernel
theorem d_D_countAbove_27 : decode b_D_countAbove 27 = .ok (.goto (-23), 3) := by decide +kernel
theorem d_D_countAbove_30 : decode b_D_countAbove 30 = .ok (.iload_n 2, 1) := by decide +kernel
theorem d_D_countAbove_31 : decode b_D_countAbove 31 = .ok (.ireturn, 1) := by decide +kernel
theorem d_D_isAbove_0 : decode b_D_isAbove 0 = .ok (.aload_n 0, 1) := by decide +kernel
theorem d_D_isAbove_1 : decode b_D_isAbove 1 = .ok (.iload_n 1, 1) := by decide +kernel
theorem d_D_isAbove_2 : decode b_D_isAbove 2 = .ok (.invokevirtual 46, 3) := by decide +kernel
theorem d_D_isAbove_5 : decode b_D_isAbove 5 = .ok (.ifCond .eq 11, 3) := by decide +kernel
theorem d_D_isAbove_8 : decode b_D_isAbove 8 = .ok (.aload_n 0, 1) := by decide +kernel
theorem d_D_isAbove_9 : decode b_D_isAbove 9 = .ok (.iload_n 2, 1) := by decide +kernel
theorem d_D_isAbove_10 : decode b_D_isAbove 10 = .ok (.invokevirtual 46, 3) := by decide +kernel
theorem d_D_isAbove_13 : decode b_D_isAbove 13 = .ok (.ifCond .ne 5, 3) := by decide +kernel
theorem d_D_isAbove_16 : decode b_D_isAbove 16 = .ok (.iconst 0, 1) := by decide +kernel
theorem d_D_isAbove_17 : decode b_D_isAbove 17 = .ok (.ireturn, 1) := by decide +kernel
theorem d_D_isAbove_18 : decode b_D_isAbove 18 = .ok (.aload_n 0, 1) := by decide +kernel
theorem d_D_isAbove_19 : decode b_D_isAbove 19 = .ok (.getfield 9, 3) := by decide +kernel
theorem d_D_isAbove_22 : decode b_D_isAbove 22 = .ok (.iload_n 1, 1) := by decide +kernel
theorem d_D_isAbove_23 : decode b_D_isAbove 23 = .ok (.laload, 1) := by decide +kernel
theorem d_D_isAbove_24 : decode b_D_isAbove 24 = .ok (.ldc2_w 68, 3) := by decide +kernel
theorem d_D_isAbove_27 : decode b_D_isAbove 27 = .ok (.lxor, 1) := by decide +kernel
theorem d_D_isAbove_28 : decode b_D_isAbove 28 = .ok (.lstore_n 3, 1) := by decide +kernel
theorem d_D_isAbove_29 : decode b_D_isAbove 29 = .ok (.aload_n 0, 1) := by decide +kernel
theorem d_D_isAbove_30 : decode b_D_isAbove 30 = .ok (.getfield 9, 3) := by decide +kernel
theorem d_D_isAbove_33 : decode b_D_isAbove 33 = .ok (.iload_n 2, 1) := by decide +kernel
theorem d_D_isAbove_34 : decode b_D_isAbove 34 = .ok (.laload, 1) := by decide +kernel
theorem d_D_isAbove_35 : decode b_D_isAbove 35 = .ok (.ldc2_w 68, 3) := by decide +kernel
theorem d_D_isAbove_38 : decode b_D_isAbove 38 = .ok (.lxor, 1) := by decide +kernel
theorem d_D_isAbove_39 : decode b_D_isAbove 39 = .ok (.lstore 5, 2) := by decide +kernel
theorem d_D_isAbove_41 : decode b_D_isAbove 41 = .ok (.lload_n 3, 1) := by decide +kernel
theorem d_D_isAbove_42 : decode b_D_isAbove 42 = .ok (.lload 5, 2) := by decide +kernel
theorem d_D_isAbove_44 : decode b_D_isAbove 44 = .ok (.lcmp, 1) := by decide +kernel
theorem d_D_isAbove_45 : decode b_D_isAbove 45 = .ok (.ifCond .gt 15, 3) := by decide +kernel
theorem d_D_isAbove_48 : decode b_D_isAbove 48 = .ok (.lload_n 3, 1) := by decide +kernel
theorem d_D_isAbove_49 : decode b_D_isAbove 49 = .ok (.lload 5, 2) := by decide +kernel
theorem d_D_isAbove_51 : decode b_D_isAbove 51 = .ok (.lcmp, 1) := by decide +kernel
theorem d_D_isAbove_52 : decode b_D_isAbove 52 = .ok (.ifCond .ne 12, 3) := by decide +kernel
theorem d_D_isAbove_55 : decode b_D_isAbove 55 = .ok (.iload_n 1, 1) := by decide +kernel
theorem d_D_isAbove_56 : decode b_D_isAbove 56 = .ok (.iload_n 2, 1) := by decide +kernel
theorem d_D_isAbove_57 : decode b_D_isAbove 57 = .ok (.if_icmp .le 7, 3) := by decide +kernel
theorem d_D_isAbove_60 : decode b_D_isAbove 60 = .ok (.iconst 1, 1) := by decide +kernel
theorem d_D_isAbove_61 : decode b_D_isAbove 61 = .ok (.goto 4, 3) := by decide +kernel
theorem d_D_isAbove_64 : decode b_D_isAbove 64 = .ok (.iconst 0, 1) := by decide +kernel
theorem d_D_isAbove_65 : decode b_D_isAbove 65 = .ok (.ireturn, 1) := by decide +kernel
theorem d_V_init_0 : decode b_V_init 0 = .ok (.aload_n 0, 1) := by decide +kernel
theorem d_V_init_1 : decode b_V_init 1 = .ok (.invokespecial 3, 3) := by decide +kernel
theorem d_V_init_4 : decode b_V_init 4 = .ok (.aload_n 0, 1) := by decide +kernel
theorem d_V_init_5 : decode b_V_init 5 = .ok (.bipush 100, 2) := by decide +kernel
theorem d_V_init_7 : decode b_V_init 7 = .ok (.newarray .int, 2) := by decide +kernel
theorem d_V_init_9 : decode b_V_init 9 = .ok (.putfield 9, 3) := by decide +kernel
theorem d_V_init_12 : decode b_V_init 12 = .ok (.aload_n 0, 1) := by decide +kernel
theorem d_V_init_13 : decode b_V_init 13 = .ok (.bipush 100, 2) := by decide +kernel
theorem d_V_init_15 : decode b_V_init 15 = .ok (.newarray .boolean, 2) := by decide +kernel
theorem d_V_init_17 : decode b_V_init 17 = .ok (.putfield 15, 3) := by decide +kernel
theorem d_V_init_20 : decode b_V_init 20 = .ok (.aload_n 0, 1) := by decide +kernel
theorem d_V_init_21 : decode b_V_init 21 = .ok (.iconst 0, 1) := by decide +kernel
theorem d_V_init_22 : decode b_V_init 22 = .ok (.putfield 19, 3) := by decide +kernel
theorem d_V_init_25 : decode b_V_init 25 = .ok (.return_, 1) := by decide +kernel
theorem d_V_forget_0 : decode b_V_forget 0 = .ok (.aload_n 0, 1) := by decide +kernel
theorem d_V_forget_1 : decode b_V_forget 1 = .ok (.iconst 0, 1) := by decide +kernel
theorem d_V_forget_2 : decode b_V_forget 2 = .ok (.putfield 19, 3) := by decide +kernel
theorem d_V_forget_5 : decode b_V_forget 5 = .ok (.return_, 1) := by decide +kernel
theorem d_V_tell_0 : decode b_V_tell 0 = .ok (.aload_n 0, 1) := by decide +kernel
theorem d_V_tell_1 : decode b_V_tell 1 = .ok (.iload_n 1, 1) := by decide +kernel
theorem d_V_tell_2 : decode b_V_tell 2 = .ok (.invokevirtual 23, 3) := by decide +kernel
theorem d_V_tell_5 : decode b_V_tell 5 = .ok (.istore_n 3, 1) := by decide +kernel
theorem d_V_tell_6 : decode b_V_tell 6 = .ok (.iload_n 3, 1) := by decide +kernel
theorem d_V_tell_7 : decode b_V_tell 7 = .ok (.aload_n 0, 1) := by decide +kernel
theorem d_V_tell_8 : decode b_V_tell 8 = .ok (.getfield 19, 3) := by decide +kernel
theorem d_V_tell_11 : decode b_V_tell 11 = .ok (.if_icmp .ne 31, 3) := by decide +kernel
theorem d_V_tell_14 : decode b_V_tell 14 = .ok (.aload_n 0, 1) := by decide +kernel
theorem d_V_tell_15 : decode b_V_tell 15 = .ok (.getfield 19, 3) := by decide +kernel
theorem d_V_tell_18 : decode b_V_tell 18 = .ok (.bipush 100, 2) := by decide +kernel
theorem d_V_tell_20 : decode b_V_tell 20 = .ok (.if_icmp .lt 5, 3) := by decide +kernel
theorem d_V_tell_23 : decode b_V_tell 23 = .ok (.iconst 0, 1) := by decide +kernel
theorem d_V_tell_24 : decode b_V_tell 24 = .ok (.ireturn, 1) := by decide +kernel
theorem d_V_tell_25 : decode b_V_tell 25 = .ok (.aload_n 0, 1) := by decide +kernel
theorem d_V_tell_26 : decode b_V_tell 26 = .ok (.getfield 9, 3) := by decide +kernel
theorem d_V_tell_29 : decode b_V_tell 29 = .ok (.iload_n 3, 1) := by decide +kernel
theorem d_V_tell_30 : decode b_V_tell 30 = .ok (.iload_n 1, 1) := by decide +kernel
theorem d_V_tell_31 : decode b_V_tell 31 = .ok (.iastore, 1) := by decide +kernel
theorem d_V_tell_32 : decode b_V_tell 32 = .ok (.aload_n 0, 1) := by decide +kernel
theorem d_V_tell_33 : decode b_V_tell 33 = .ok (.dup, 1) := by decide +kernel
theorem d_V_tell_34 : decode b_V_tell 34 = .ok (.getfield 19, 3) := by decide +kernel
theorem d_V_tell_37 : decode b_V_tell 37 = .ok (.iconst 1, 1) := by decide +kernel
theorem d_V_tell_38 : decode b_V_tell 38 = .ok (.iadd, 1) := by decide +kernel
theorem d_V_tell_39 : decode b_V_tell 39 = .ok (.putfield 19, 3) := by decide +kernel
theorem d_V_tell_42 : decode b_V_tell 42 = .ok (.aload_n 0, 1) := by decide +kernel
theorem d_V_tell_43 : decode b_V_tell 43 = .ok (.getfield 15, 3) := by decide +kernel
theorem d_V_tell_46 : decode b_V_tell 46 = .ok (.iload_n 3, 1) := by decide +kernel
theorem d_V_tell_47 : decode b_V_tell 47 = .ok (.iload_n 2, 1) := by decide +kernel
theorem d_V_tell_48 : decode b_V_tell 48 = .ok (.bastore, 1) := by decide +kernel
theorem d_V_tell_49 : decode b_V_tell 49 = .ok (.iconst 1, 1) := by decide +kernel
theorem d_V_tell_50 : decode b_V_tell 50 = .ok (.ireturn, 1) := by decide +kernel
theorem d_V_stayFor_0 : decode b_V_stayFor 0 = .ok (.aload_n 0, 1) := by decide +kernel
theorem d_V_stayFor_1 : decode b_V_stayFor 1 = .ok (.iload_n 1, 1) := by decide +kernel
theorem d_V_stayFor_2 : decode b_V_stayFor 2 = .ok (.invokevirtual 23, 3) := by decide +kernel
theorem d_V_stayFor_5 : decode b_V_stayFor 5 = .ok (.istore_n 2, 1) := by decide +kernel
theorem d_V_stayFor_6 : decode b_V_stayFor 6 = .ok (.iload_n 2, 1) := by decide +kernel
theorem d_V_stayFor_7 : decode b_V_stayFor 7 = .ok (.aload_n 0, 1) := by decide +kernel
theorem d_V_stayFor_8 : decode b_V_stayFor 8 = .ok (.getfield 19, 3) := by decide +kernel
theorem d_V_stayFor_11 : decode b_V_stayFor 11 = .ok (.if_icmp .ge 16, 3) := by decide +kernel
theorem d_V_stayFor_14 : decode b_V_stayFor 14 = .ok (.aload_n 0, 1) := by decide +kernel
theorem d_V_stayFor_15 : decode b_V_stayFor 15 = .ok (.getfield 15, 3) := by decide +kernel
theorem d_V_stayFor_18 : decode b_V_stayFor 18 = .ok (.iload_n 2, 1) := by decide +kernel
theorem d_V_stayFor_19 : decode b_V_stayFor 19 = .ok (.baload, 1) := by decide +kernel
theorem d_V_stayFor_20 : decode b_V_stayFor 20 = .ok (.ifCond .eq 7, 3) := by decide +kernel
theorem d_V_stayFor_23 : decode b_V_stayFor 23 = .ok (.iconst 1, 1) := by decide +kernel
theorem d_V_stayFor_24 : decode b_V_stayFor 24 = .ok (.goto 4, 3) := by decide +kernel
theorem d_V_stayFor_27 : decode b_V_stayFor 27 = .ok (.iconst 0, 1) := by decide +kernel
theorem d_V_stayFor_28 : decode b_V_stayFor 28 = .ok (.ireturn, 1) := by decide +kernel
theorem d_V_find_0 : decode b_V_find 0 = .ok (.iconst 0, 1) := by decide +kernel
theorem d_V_find_1 : decode b_V_find 1 = .ok (.istore_n 2, 1) := by decide +kernel
theorem d_V_find_2 : decode b_V_find 2 = .ok (.iload_n 2, 1) := by decide +kernel
theorem d_V_find_3 : decode b_V_find 3 = .ok (.aload_n 0, 1) := by decide +kernel
theorem d_V_find_4 : decode b_V_find 4 = .ok (.getfield 19, 3) := by decide +kernel
theorem d_V_find_7 : decode b_V_find 7 = .ok (.if_icmp .ge 21, 3) := by decide +kernel
theorem d_V_find_10 : decode b_V_find 10 = .ok (.aload_n 0, 1) := by decide +kernel
theorem d_V_find_11 : decode b_V_find 11 = .ok (.getfield 9, 3) := by decide +kernel
theorem d_V_find_14 : decode b_V_find 14 = .ok (.iload_n 2, 1) := by decide +kernel
theorem d_V_find_15 : decode b_V_find 15 = .ok (.iaload, 1) := by decide +kernel
theorem d_V_find_16 : decode b_V_find 16 = .ok (.iload_n 1, 1) := by decide +kernel
theorem d_V_find_17 : decode b_V_find 17 = .ok (.if_icmp .ne 5, 3) := by decide +kernel
theorem d_V_find_20 : decode b_V_find 20 = .ok (.iload_n 2, 1) := by decide +kernel
theorem d_V_find_21 : decode b_V_find 21 = .ok (.ireturn, 1) := by decide +kernel
theorem d_V_find_22 : decode b_V_find 22 = .ok (.iinc 2 1, 3) := by decide +kernel
theorem d_V_find_25 : decode b_V_find 25 = .ok (.goto (-23), 3) := by decide +kernel
theorem d_V_find_28 : decode b_V_find 28 = .ok (.aload_n 0, 1) := by decide +kernel
theorem d_V_find_29 : decode b_V_find 29 = .ok (.getfield 19, 3) := by decide +kernel
theorem d_V_find_32 : decode b_V_find 32 = .ok (.ireturn, 1) := by decide +kernel
theorem d_J_bitCount_0 : decode b_J_bitCount 0 = .ok (.iload_n 0, 1) := by decide +kernel
theorem d_J_bitCount_1 : decode b_J_bitCount 1 = .ok (.iload_n 0, 1) := by decide +kernel
theorem d_J_bitCount_2 : decode b_J_bitCount 2 = .ok (.iconst 1, 1) := by decide +kernel
theorem d_J_bitCount_3 : decode b_J_bitCount 3 = .ok (.iushr, 1) := by decide +kernel
theorem d_J_bitCount_4 : decode b_J_bitCount 4 = .ok (.ldc_w 265, 3) := by decide +kernel
theorem d_J_bitCount_7 : decode b_J_bitCount 7 = .ok (.iand, 1) := by decide +kernel
theorem d_J_bitCount_8 : decode b_J_bitCount 8 = .ok (.isub, 1) := by decide +kernel
theorem d_J_bitCount_9 : decode b_J_bitCount 9 = .ok (.istore_n 0, 1) := by decide +kernel
theorem d_J_bitCount_10 : decode b_J_bitCount 10 = .ok (.iload_n 0, 1) := by decide +kernel
theorem d_J_bitCount_11 : decode b_J_bitCount 11 = .ok (.ldc_w 266, 3) := by decide +kernel
theorem d_J_bitCount_14 : decode b_J_bitCount 14 = .ok (.iand, 1) := by decide +kernel
theorem d_J_bitCount_15 : decode b_J_bitCount 15 = .ok (.iload_n 0, 1) := by decide +kernel
theorem d_J_bitCount_16 : decode b_J_bitCount 16 = .ok (.iconst 2, 1) := by decide +kernel
theorem d_J_bitCount_17 : decode b_J_bitCount 17 = .ok (.iushr, 1) := by decide +kernel
theorem d_J_bitCount_18 : decode b_J_bitCount 18 = .ok (.ldc_w 266, 3) := by decide +kernel
theorem d_J_bitCount_21 : decode b_J_bitCount 21 = .ok (.iand, 1) := by decide +kernel
theorem d_J_bitCount_22 : decode b_J_bitCount 22 = .ok (.iadd, 1) := by decide +kernel
theorem d_J_bitCount_23 : decode b_J_bitCount 23 = .ok (.istore_n 0, 1) := by decide +kernel
theorem d_J_bitCount_24 : decode b_J_bitCount 24 = .ok (.iload_n 0, 1) := by decide +kernel
theorem d_J_bitCount_25 : decode b_J_bitCount 25 = .ok (.iload_n 0, 1) := by decide +kernel
theorem d_J_bitCount_26 : decode b_J_bitCount 26 = .ok (.iconst 4, 1) := by decide +kernel
theorem d_J_bitCount_27 : decode b_J_bitCount 27 = .ok (.iushr, 1) := by decide +kernel
theorem d_J_bitCount_28 : decode b_J_bitCount 28 = .ok (.iadd, 1) := by decide +kernel
theorem d_J_bitCount_29 : decode b_J_bitCount 29 = .ok (.ldc_w 267, 3) := by decide +kernel
theorem d_J_bitCount_32 : decode b_J_bitCount 32 = .ok (.iand, 1) := by decide +kernel
theorem d_J_bitCount_33 : decode b_J_bitCount 33 = .ok (.istore_n 0, 1) := by decide +kernel
theorem d_J_bitCount_34 : decode b_J_bitCount 34 = .ok (.iload_n 0, 1) := by decide +kernel
theorem d_J_bitCount_35 : decode b_J_bitCount 35 = .ok (.iload_n 0, 1) := by decide +kernel
theorem d_J_bitCount_36 : decode b_J_bitCount 36 = .ok (.bipush 8, 2) := by decide +kernel
theorem d_J_bitCount_38 : decode b_J_bitCount 38 = .ok (.iushr, 1) := by decide +kernel
theorem d_J_bitCount_39 : decode b_J_bitCount 39 = .ok (.iadd, 1) := by decide +kernel
theorem d_J_bitCount_40 : decode b_J_bitCount 40 = .ok (.istore_n 0, 1) := by decide +kernel
theorem d_J_bitCount_41 : decode b_J_bitCount 41 = .ok (.iload_n 0, 1) := by decide +kernel
theorem d_J_bitCount_42 : decode b_J_bitCount 42 = .ok (.iload_n 0, 1) := by decide +kernel
theorem d_J_bitCount_43 : decode b_J_bitCount 43 = .ok (.bipush 16, 2) := by decide +kernel
theorem d_J_bitCount_45 : decode b_J_bitCount 45 = .ok (.iushr, 1) := by decide +kernel
theorem d_J_bitCount_46 : decode b_J_bitCount 46 = .ok (.iadd, 1) := by decide +kernel
theorem d_J_bitCount_47 : decode b_J_bitCount 47 = .ok (.istore_n 0, 1) := by decide +kernel
theorem d_J_bitCount_48 : decode b_J_bitCount 48 = .ok (.iload_n 0, 1) := by decide +kernel
theorem d_J_bitCount_49 : decode b_J_bitCount 49 = .ok (.bipush 63, 2) := by decide +kernel
theorem d_J_bitCount_51 : decode b_J_bitCount 51 = .ok (.iand, 1) := by decide +kernel
theorem d_J_bitCount_52 : decode b_J_bitCount 52 = .ok (.ireturn, 1) := by decide +kernel
