theorem dX2_load_14 : decode cX2_load 14 = .ok (.iload_n 2, 1) := by decide +kernel
theorem dX2_load_15 : decode cX2_load 15 = .ok (.ifCond .lt 10, 3) := by decide +kernel
theorem dX2_load_18 : decode cX2_load 18 = .ok (.iload_n 2, 1) := by decide +kernel
theorem dX2_load_19 : decode cX2_load 19 = .ok (.sipush 1000, 3) := by decide +kernel
theorem dX2_load_22 : decode cX2_load 22 = .ok (.if_icmp .le 6, 3) := by decide +kernel
theorem dX2_load_25 : decode cX2_load 25 = .ok (.bipush (-12), 2) := by decide +kernel
theorem dX2_load_27 : decode cX2_load 27 = .ok (.ireturn, 1) := by decide +kernel
theorem dX2_load_28 : decode cX2_load 28 = .ok (.aload_n 0, 1) := by decide +kernel
theorem dX2_load_29 : decode cX2_load 29 = .ok (.getfield 10, 3) := by decide +kernel
theorem dX2_load_32 : decode cX2_load 32 = .ok (.iload_n 1, 1) := by decide +kernel
theorem dX2_load_33 : decode cX2_load 33 = .ok (.iload_n 2, 1) := by decide +kernel
theorem dX2_load_34 : decode cX2_load 34 = .ok (.invokevirtual 65, 3) := by decide +kernel
theorem dX2_load_37 : decode cX2_load 37 = .ok (.aload_n 0, 1) := by decide +kernel
theorem dX2_load_38 : decode cX2_load 38 = .ok (.getfield 10, 3) := by decide +kernel
theorem dX2_load_41 : decode cX2_load 41 = .ok (.invokevirtual 69, 3) := by decide +kernel
theorem dX2_load_44 : decode cX2_load 44 = .ok (.ireturn, 1) := by decide +kernel
theorem dX2_limit_0 : decode cX2_limit 0 = .ok (.iload_n 1, 1) := by decide +kernel
theorem dX2_limit_1 : decode cX2_limit 1 = .ok (.iconst (-1), 1) := by decide +kernel
theorem dX2_limit_2 : decode cX2_limit 2 = .ok (.if_icmp .ge 6, 3) := by decide +kernel
theorem dX2_limit_5 : decode cX2_limit 5 = .ok (.bipush (-12), 2) := by decide +kernel
theorem dX2_limit_7 : decode cX2_limit 7 = .ok (.ireturn, 1) := by decide +kernel
theorem dX2_limit_8 : decode cX2_limit 8 = .ok (.aload_n 0, 1) := by decide +kernel
theorem dX2_limit_9 : decode cX2_limit 9 = .ok (.iload_n 1, 1) := by decide +kernel
theorem dX2_limit_10 : decode cX2_limit 10 = .ok (.putfield 38, 3) := by decide +kernel
theorem dX2_limit_13 : decode cX2_limit 13 = .ok (.iload_n 1, 1) := by decide +kernel
theorem dX2_limit_14 : decode cX2_limit 14 = .ok (.iconst (-1), 1) := by decide +kernel
theorem dX2_limit_15 : decode cX2_limit 15 = .ok (.if_icmp .ne 7, 3) := by decide +kernel
theorem dX2_limit_18 : decode cX2_limit 18 = .ok (.iconst 0, 1) := by decide +kernel
theorem dX2_limit_19 : decode cX2_limit 19 = .ok (.goto 4, 3) := by decide +kernel
theorem dX2_limit_22 : decode cX2_limit 22 = .ok (.iconst 1, 1) := by decide +kernel
theorem dX2_limit_23 : decode cX2_limit 23 = .ok (.ireturn, 1) := by decide +kernel
theorem dX2_solve_0 : decode cX2_solve 0 = .ok (.lload_n 1, 1) := by decide +kernel
theorem dX2_solve_1 : decode cX2_solve 1 = .ok (.lconst 0, 1) := by decide +kernel
theorem dX2_solve_2 : decode cX2_solve 2 = .ok (.lcmp, 1) := by decide +kernel
theorem dX2_solve_3 : decode cX2_solve 3 = .ok (.ifCond .lt 11, 3) := by decide +kernel
theorem dX2_solve_6 : decode cX2_solve 6 = .ok (.lload_n 1, 1) := by decide +kernel
theorem dX2_solve_7 : decode cX2_solve 7 = .ok (.ldc2_w 73, 3) := by decide +kernel
theorem dX2_solve_10 : decode cX2_solve 10 = .ok (.lcmp, 1) := by decide +kernel
theorem dX2_solve_11 : decode cX2_solve 11 = .ok (.ifCond .le 7, 3) := by decide +kernel
theorem dX2_solve_14 : decode cX2_solve 14 = .ok (.ldc2_w 75, 3) := by decide +kernel
theorem dX2_solve_17 : decode cX2_solve 17 = .ok (.lreturn, 1) := by decide +kernel
theorem dX2_solve_18 : decode cX2_solve 18 = .ok (.aload_n 0, 1) := by decide +kernel
theorem dX2_solve_19 : decode cX2_solve 19 = .ok (.getfield 38, 3) := by decide +kernel
theorem dX2_solve_22 : decode cX2_solve 22 = .ok (.iconst (-1), 1) := by decide +kernel
theorem dX2_solve_23 : decode cX2_solve 23 = .ok (.if_icmp .eq 26, 3) := by decide +kernel
theorem dX2_solve_26 : decode cX2_solve 26 = .ok (.aload_n 0, 1) := by decide +kernel
theorem dX2_solve_27 : decode cX2_solve 27 = .ok (.getfield 10, 3) := by decide +kernel
theorem dX2_solve_30 : decode cX2_solve 30 = .ok (.invokevirtual 69, 3) := by decide +kernel
theorem dX2_solve_33 : decode cX2_solve 33 = .ok (.aload_n 0, 1) := by decide +kernel
theorem dX2_solve_34 : decode cX2_solve 34 = .ok (.getfield 38, 3) := by decide +kernel
theorem dX2_solve_37 : decode cX2_solve 37 = .ok (.if_icmp .le 12, 3) := by decide +kernel
theorem dX2_solve_40 : decode cX2_solve 40 = .ok (.aload_n 0, 1) := by decide +kernel
theorem dX2_solve_41 : decode cX2_solve 41 = .ok (.iconst (-1), 1) := by decide +kernel
theorem dX2_solve_42 : decode cX2_solve 42 = .ok (.putfield 27, 3) := by decide +kernel
theorem dX2_solve_45 : decode cX2_solve 45 = .ok (.ldc2_w 77, 3) := by decide +kernel
theorem dX2_solve_48 : decode cX2_solve 48 = .ok (.lreturn, 1) := by decide +kernel
theorem dX2_solve_49 : decode cX2_solve 49 = .ok (.aload_n 0, 1) := by decide +kernel
theorem dX2_solve_50 : decode cX2_solve 50 = .ok (.aload_n 0, 1) := by decide +kernel
theorem dX2_solve_51 : decode cX2_solve 51 = .ok (.getfield 19, 3) := by decide +kernel
theorem dX2_solve_54 : decode cX2_solve 54 = .ok (.aload_n 0, 1) := by decide +kernel
theorem dX2_solve_55 : decode cX2_solve 55 = .ok (.getfield 10, 3) := by decide +kernel
theorem dX2_solve_58 : decode cX2_solve 58 = .ok (.aload_n 0, 1) := by decide +kernel
theorem dX2_solve_59 : decode cX2_solve 59 = .ok (.getfield 23, 3) := by decide +kernel
theorem dX2_solve_62 : decode cX2_solve 62 = .ok (.aload_n 0, 1) := by decide +kernel
theorem dX2_solve_63 : decode cX2_solve 63 = .ok (.getfield 31, 3) := by decide +kernel
theorem dX2_solve_66 : decode cX2_solve 66 = .ok (.invokevirtual 79, 3) := by decide +kernel
theorem dX2_solve_69 : decode cX2_solve 69 = .ok (.putfield 34, 3) := by decide +kernel
theorem dX2_solve_72 : decode cX2_solve 72 = .ok (.aload_n 0, 1) := by decide +kernel
theorem dX2_solve_73 : decode cX2_solve 73 = .ok (.aload_n 0, 1) := by decide +kernel
theorem dX2_solve_74 : decode cX2_solve 74 = .ok (.getfield 10, 3) := by decide +kernel
theorem dX2_solve_77 : decode cX2_solve 77 = .ok (.getfield 47, 3) := by decide +kernel
theorem dX2_solve_80 : decode cX2_solve 80 = .ok (.putfield 27, 3) := by decide +kernel
theorem dX2_solve_83 : decode cX2_solve 83 = .ok (.aload_n 0, 1) := by decide +kernel
theorem dX2_solve_84 : decode cX2_solve 84 = .ok (.getfield 34, 3) := by decide +kernel
theorem dX2_solve_87 : decode cX2_solve 87 = .ok (.ifCond .ne 12, 3) := by decide +kernel
theorem dX2_solve_90 : decode cX2_solve 90 = .ok (.aload_n 0, 1) := by decide +kernel
theorem dX2_solve_91 : decode cX2_solve 91 = .ok (.invokevirtual 83, 3) := by decide +kernel
theorem dX2_solve_94 : decode cX2_solve 94 = .ok (.aload_n 0, 1) := by decide +kernel
theorem dX2_solve_95 : decode cX2_solve 95 = .ok (.lload_n 1, 1) := by decide +kernel
theorem dX2_solve_96 : decode cX2_solve 96 = .ok (.invokevirtual 86, 3) := by decide +kernel
theorem dX2_solve_99 : decode cX2_solve 99 = .ok (.aload_n 0, 1) := by decide +kernel
theorem dX2_solve_100 : decode cX2_solve 100 = .ok (.getfield 10, 3) := by decide +kernel
theorem dX2_solve_103 : decode cX2_solve 103 = .ok (.aload_n 0, 1) := by decide +kernel
theorem dX2_solve_104 : decode cX2_solve 104 = .ok (.getfield 23, 3) := by decide +kernel
theorem dX2_solve_107 : decode cX2_solve 107 = .ok (.aload_n 0, 1) := by decide +kernel
theorem dX2_solve_108 : decode cX2_solve 108 = .ok (.getfield 27, 3) := by decide +kernel
theorem dX2_solve_111 : decode cX2_solve 111 = .ok (.invokevirtual 90, 3) := by decide +kernel
theorem dX2_solve_114 : decode cX2_solve 114 = .ok (.lreturn, 1) := by decide +kernel
theorem dX2_at_0 : decode cX2_at 0 = .ok (.iload_n 1, 1) := by decide +kernel
theorem dX2_at_1 : decode cX2_at 1 = .ok (.ifCond .lt 11, 3) := by decide +kernel
theorem dX2_at_4 : decode cX2_at 4 = .ok (.iload_n 1, 1) := by decide +kernel
theorem dX2_at_5 : decode cX2_at 5 = .ok (.aload_n 0, 1) := by decide +kernel
theorem dX2_at_6 : decode cX2_at 6 = .ok (.getfield 27, 3) := by decide +kernel
theorem dX2_at_9 : decode cX2_at 9 = .ok (.if_icmp .lt 13, 3) := by decide +kernel
theorem dX2_at_12 : decode cX2_at 12 = .ok (.new 94, 3) := by decide +kernel
theorem dX2_at_15 : decode cX2_at 15 = .ok (.dup, 1) := by decide +kernel
theorem dX2_at_16 : decode cX2_at 16 = .ok (.ldc 96, 2) := by decide +kernel
theorem dX2_at_18 : decode cX2_at 18 = .ok (.invokespecial 98, 3) := by decide +kernel
theorem dX2_at_21 : decode cX2_at 21 = .ok (.athrow, 1) := by decide +kernel
theorem dX2_at_22 : decode cX2_at 22 = .ok (.aload_n 0, 1) := by decide +kernel
theorem dX2_at_23 : decode cX2_at 23 = .ok (.getfield 23, 3) := by decide +kernel
theorem dX2_at_26 : decode cX2_at 26 = .ok (.iload_n 1, 1) := by decide +kernel
theorem dX2_at_27 : decode cX2_at 27 = .ok (.iaload, 1) := by decide +kernel
theorem dX2_at_28 : decode cX2_at 28 = .ok (.ireturn, 1) := by decide +kernel
theorem dX2_exact_0 : decode cX2_exact 0 = .ok (.aload_n 0, 1) := by decide +kernel
theorem dX2_exact_1 : decode cX2_exact 1 = .ok (.getfield 34, 3) := by decide +kernel
theorem dX2_exact_4 : decode cX2_exact 4 = .ok (.ireturn, 1) := by decide +kernel
theorem dX2_late_0 : decode cX2_late 0 = .ok (.iload_n 1, 1) := by decide +kernel
theorem dX2_late_1 : decode cX2_late 1 = .ok (.ifCond .lt 11, 3) := by decide +kernel
theorem dX2_late_4 : decode cX2_late 4 = .ok (.aload_n 0, 1) := by decide +kernel
theorem dX2_late_5 : decode cX2_late 5 = .ok (.getfield 27, 3) := by decide +kernel
theorem dX2_late_8 : decode cX2_late 8 = .ok (.iconst (-1), 1) := by decide +kernel
theorem dX2_late_9 : decode cX2_late 9 = .ok (.if_icmp .ne 7, 3) := by decide +kernel
theorem dX2_late_12 : decode cX2_late 12 = .ok (.iconst 0, 1) := by decide +kernel
theorem dX2_late_13 : decode cX2_late 13 = .ok (.goto 19, 3) := by decide +kernel
theorem dX2_late_16 : decode cX2_late 16 = .ok (.aload_n 0, 1) := by decide +kernel
theorem dX2_late_17 : decode cX2_late 17 = .ok (.getfield 10, 3) := by decide +kernel
theorem dX2_late_20 : decode cX2_late 20 = .ok (.aload_n 0, 1) := by decide +kernel
theorem dX2_late_21 : decode cX2_late 21 = .ok (.getfield 23, 3) := by decide +kernel
theorem dX2_late_24 : decode cX2_late 24 = .ok (.aload_n 0, 1) := by decide +kernel
theorem dX2_late_25 : decode cX2_late 25 = .ok (.getfield 27, 3) := by decide +kernel
theorem dX2_late_28 : decode cX2_late 28 = .ok (.iload_n 1, 1) := by decide +kernel
theorem dX2_late_29 : decode cX2_late 29 = .ok (.invokevirtual 101, 3) := by decide +kernel
theorem dX2_late_32 : decode cX2_late 32 = .ok (.ireturn, 1) := by decide +kernel
theorem dX2_freeze_0 : decode cX2_freeze 0 = .ok (.iload_n 1, 1) := by decide +kernel
theorem dX2_freeze_1 : decode cX2_freeze 1 = .ok (.ifCond .lt 19, 3) := by decide +kernel
theorem dX2_freeze_4 : decode cX2_freeze 4 = .ok (.aload_n 0, 1) := by decide +kernel
theorem dX2_freeze_5 : decode cX2_freeze 5 = .ok (.getfield 27, 3) := by decide +kernel
theorem dX2_freeze_8 : decode cX2_freeze 8 = .ok (.iconst (-1), 1) := by decide +kernel
theorem dX2_freeze_9 : decode cX2_freeze 9 = .ok (.if_icmp .eq 14, 3) := by decide +kernel
theorem dX2_freeze_12 : decode cX2_freeze 12 = .ok (.iload_n 1, 1) := by decide +kernel
theorem dX2_freeze_13 : decode cX2_freeze 13 = .ok (.aload_n 0, 1) := by decide +kernel
theorem dX2_freeze_14 : decode cX2_freeze 14 = .ok (.getfield 27, 3) := by decide +kernel
theorem dX2_freeze_17 : decode cX2_freeze 17 = .ok (.if_icmp .le 6, 3) := by decide +kernel
theorem dX2_freeze_20 : decode cX2_freeze 20 = .ok (.bipush (-11), 2) := by decide +kernel
theorem dX2_freeze_22 : decode cX2_freeze 22 = .ok (.ireturn, 1) := by decide +kernel
theorem dX2_freeze_23 : decode cX2_freeze 23 = .ok (.aload_n 0, 1) := by decide +kernel
theorem dX2_freeze_24 : decode cX2_freeze 24 = .ok (.getfield 27, 3) := by decide +kernel
theorem dX2_freeze_27 : decode cX2_freeze 27 = .ok (.iconst (-1), 1) := by decide +kernel
theorem dX2_freeze_28 : decode cX2_freeze 28 = .ok (.if_icmp .ne 6, 3) := by decide +kernel
theorem dX2_freeze_31 : decode cX2_freeze 31 = .ok (.bipush (-13), 2) := by decide +kernel
theorem dX2_freeze_33 : decode cX2_freeze 33 = .ok (.ireturn, 1) := by decide +kernel
theorem dX2_freeze_34 : decode cX2_freeze 34 = .ok (.aload_n 0, 1) := by decide +kernel
theorem dX2_freeze_35 : decode cX2_freeze 35 = .ok (.iload_n 1, 1) := by decide +kernel
theorem dX2_freeze_36 : decode cX2_freeze 36 = .ok (.putfield 31, 3) := by decide +kernel
theorem dX2_freeze_39 : decode cX2_freeze 39 = .ok (.iload_n 1, 1) := by decide +kernel
theorem dX2_freeze_40 : decode cX2_freeze 40 = .ok (.ireturn, 1) := by decide +kernel
theorem dX2_add_0 : decode cX2_add 0 = .ok (.aload_n 0, 1) := by decide +kernel
theorem dX2_add_1 : decode cX2_add 1 = .ok (.getfield 10, 3) := by decide +kernel
theorem dX2_add_4 : decode cX2_add 4 = .ok (.iload_n 1, 1) := by decide +kernel
theorem dX2_add_5 : decode cX2_add 5 = .ok (.invokevirtual 62, 3) := by decide +kernel
theorem dX2_add_8 : decode cX2_add 8 = .ok (.ifCond .ne 6, 3) := by decide +kernel
theorem dX2_add_11 : decode cX2_add 11 = .ok (.bipush (-11), 2) := by decide +kernel
theorem dX2_add_13 : decode cX2_add 13 = .ok (.ireturn, 1) := by decide +kernel
theorem dX2_add_14 : decode cX2_add 14 = .ok (.aload_n 0, 1) := by decide +kernel
theorem dX2_add_15 : decode cX2_add 15 = .ok (.iload_n 1, 1) := by decide +kernel
theorem dX2_add_16 : decode cX2_add 16 = .ok (.invokevirtual 105, 3) := by decide +kernel
theorem dX2_add_19 : decode cX2_add 19 = .ok (.istore_n 2, 1) := by decide +kernel
theorem dX2_add_20 : decode cX2_add 20 = .ok (.iload_n 2, 1) := by decide +kernel
theorem dX2_add_21 : decode cX2_add 21 = .ok (.aload_n 0, 1) := by decide +kernel
theorem dX2_add_22 : decode cX2_add 22 = .ok (.getfield 31, 3) := by decide +kernel
theorem dX2_add_25 : decode cX2_add 25 = .ok (.if_icmp .ge 6, 3) := by decide +kernel
theorem dX2_add_28 : decode cX2_add 28 = .ok (.bipush (-13), 2) := by decide +kernel
theorem dX2_add_30 : decode cX2_add 30 = .ok (.ireturn, 1) := by decide +kernel
theorem dX2_add_31 : decode cX2_add 31 = .ok (.iload_n 2, 1) := by decide +kernel
theorem dX2_add_32 : decode cX2_add 32 = .ok (.istore_n 3, 1) := by decide +kernel
theorem dX2_add_33 : decode cX2_add 33 = .ok (.iload_n 3, 1) := by decide +kernel
theorem dX2_add_34 : decode cX2_add 34 = .ok (.iconst 1, 1) := by decide +kernel
theorem dX2_add_35 : decode cX2_add 35 = .ok (.iadd, 1) := by decide +kernel
theorem dX2_add_36 : decode cX2_add 36 = .ok (.aload_n 0, 1) := by decide +kernel
theorem dX2_add_37 : decode cX2_add 37 = .ok (.getfield 27, 3) := by decide +kernel
theorem dX2_add_40 : decode cX2_add 40 = .ok (.if_icmp .ge 17, 3) := by decide +kernel
theorem dX2_add_43 : decode cX2_add 43 = .ok (.aload_n 0, 1) := by decide +kernel
theorem dX2_add_44 : decode cX2_add 44 = .ok (.iload_n 3, 1) := by decide +kernel
theorem dX2_add_45 : decode cX2_add 45 = .ok (.iload_n 3, 1) := by decide +kernel
theorem dX2_add_46 : decode cX2_add 46 = .ok (.iconst 1, 1) := by decide +kernel
theorem dX2_add_47 : decode cX2_add 47 = .ok (.iadd, 1) := by decide +kernel
theorem dX2_add_48 : decode cX2_add 48 = .ok (.invokevirtual 109, 3) := by decide +kernel
theorem dX2_add_51 : decode cX2_add 51 = .ok (.iinc 3 1, 3) := by decide +kernel
theorem dX2_add_54 : decode cX2_add 54 = .ok (.goto (-21), 3) := by decide +kernel
theorem dX2_add_57 : decode cX2_add 57 = .ok (.aload_n 0, 1) := by decide +kernel
theorem dX2_add_58 : decode cX2_add 58 = .ok (.iconst 0, 1) := by decide +kernel
theorem dX2_add_59 : decode cX2_add 59 = .ok (.putfield 34, 3) := by decide +kernel
theorem dX2_add_62 : decode cX2_add 62 = .ok (.aload_n 0, 1) := by decide +kernel
theorem dX2_add_63 : decode cX2_add 63 = .ok (.iload_n 1, 1) := by decide +kernel
theorem dX2_add_64 : decode cX2_add 64 = .ok (.aload_n 0, 1) := by decide +kernel
theorem dX2_add_65 : decode cX2_add 65 = .ok (.getfield 27, 3) := by decide +kernel
theorem dX2_add_68 : decode cX2_add 68 = .ok (.iconst 1, 1) := by decide +kernel
theorem dX2_add_69 : decode cX2_add 69 = .ok (.isub, 1) := by decide +kernel
theorem dX2_add_70 : decode cX2_add 70 = .ok (.invokevirtual 112, 3) := by decide +kernel
theorem dX2_add_73 : decode cX2_add 73 = .ok (.ireturn, 1) := by decide +kernel
theorem dX2_arc_0 : decode cX2_arc 0 = .ok (.aload_n 0, 1) := by decide +kernel
theorem dX2_arc_1 : decode cX2_arc 1 = .ok (.getfield 10, 3) := by decide +kernel
theorem dX2_arc_4 : decode cX2_arc 4 = .ok (.iload_n 1, 1) := by decide +kernel
theorem dX2_arc_5 : decode cX2_arc 5 = .ok (.invokevirtual 54, 3) := by decide +kernel
theorem dX2_arc_8 : decode cX2_arc 8 = .ok (.ifCond .eq 14, 3) := by decide +kernel
theorem dX2_arc_11 : decode cX2_arc 11 = .ok (.aload_n 0, 1) := by decide +kernel
theorem dX2_arc_12 : decode cX2_arc 12 = .ok (.getfield 10, 3) := by decide +kernel
theorem dX2_arc_15 : decode cX2_arc 15 = .ok (.iload_n 2, 1) := by decide +kernel
theorem dX2_arc_16 : decode cX2_arc 16 = .ok (.invokevirtual 54, 3) := by decide +kernel
theorem dX2_arc_19 : decode cX2_arc 19 = .ok (.ifCond .ne 6, 3) := by decide +kernel
theorem dX2_arc_22 : decode cX2_arc 22 = .ok (.bipush (-11), 2) := by decide +kernel
theorem dX2_arc_24 : decode cX2_arc 24 = .ok (.ireturn, 1) := by decide +kernel
theorem dX2_arc_25 : decode cX2_arc 25 = .ok (.iload_n 3, 1) := by decide +kernel
theorem dX2_arc_26 : decode cX2_arc 26 = .ok (.ifCond .lt 13, 3) := by decide +kernel
theorem dX2_arc_29 : decode cX2_arc 29 = .ok (.iload_n 3, 1) := by decide +kernel
theorem dX2_arc_30 : decode cX2_arc 30 = .ok (.iconst 1, 1) := by decide +kernel
theorem dX2_arc_31 : decode cX2_arc 31 = .ok (.if_icmp .gt 8, 3) := by decide +kernel
theorem dX2_arc_34 : decode cX2_arc 34 = .ok (.iload_n 1, 1) := by decide +kernel
theorem dX2_arc_35 : decode cX2_arc 35 = .ok (.iload_n 2, 1) := by decide +kernel
theorem dX2_arc_36 : decode cX2_arc 36 = .ok (.if_icmp .ne 6, 3) := by decide +kernel
theorem dX2_arc_39 : decode cX2_arc 39 = .ok (.bipush (-12), 2) := by decide +kernel
theorem dX2_arc_41 : decode cX2_arc 41 = .ok (.ireturn, 1) := by decide +kernel
theorem dX2_arc_42 : decode cX2_arc 42 = .ok (.aload_n 0, 1) := by decide +kernel
theorem dX2_arc_43 : decode cX2_arc 43 = .ok (.iconst 0, 1) := by decide +kernel
theorem dX2_arc_44 : decode cX2_arc 44 = .ok (.putfield 34, 3) := by decide +kernel
theorem dX2_arc_47 : decode cX2_arc 47 = .ok (.aload_n 0, 1) := by decide +kernel
theorem dX2_arc_48 : decode cX2_arc 48 = .ok (.getfield 10, 3) := by decide +kernel
theorem dX2_arc_51 : decode cX2_arc 51 = .ok (.iload_n 1, 1) := by decide +kernel
theorem dX2_arc_52 : decode cX2_arc 52 = .ok (.iload_n 2, 1) := by decide +kernel
theorem dX2_arc_53 : decode cX2_arc 53 = .ok (.iload_n 3, 1) := by decide +kernel
theorem dX2_arc_54 : decode cX2_arc 54 = .ok (.ifCond .ne 7, 3) := by decide +kernel
theorem dX2_arc_57 : decode cX2_arc 57 = .ok (.iconst 1, 1) := by decide +kernel
theorem dX2_arc_58 : decode cX2_arc 58 = .ok (.goto 4, 3) := by decide +kernel
theorem dX2_arc_61 : decode cX2_arc 61 = .ok (.iconst 0, 1) := by decide +kernel
theorem dX2_arc_62 : decode cX2_arc 62 = .ok (.invokevirtual 116, 3) := by decide +kernel
theorem dX2_arc_65 : decode cX2_arc 65 = .ok (.ireturn, 1) := by decide +kernel
theorem dX2_exchange_0 : decode cX2_exchange 0 = .ok (.aload_n 0, 1) := by decide +kernel
theorem dX2_exchange_1 : decode cX2_exchange 1 = .ok (.iload_n 1, 1) := by decide +kernel
theorem dX2_exchange_2 : decode cX2_exchange 2 = .ok (.invokevirtual 120, 3) := by decide +kernel
theorem dX2_exchange_5 : decode cX2_exchange 5 = .ok (.ifCond .eq 11, 3) := by decide +kernel
theorem dX2_exchange_8 : decode cX2_exchange 8 = .ok (.aload_n 0, 1) := by decide +kernel
theorem dX2_exchange_9 : decode cX2_exchange 9 = .ok (.iload_n 2, 1) := by decide +kernel
theorem dX2_exchange_10 : decode cX2_exchange 10 = .ok (.invokevirtual 120, 3) := by decide +kernel
theorem dX2_exchange_13 : decode cX2_exchange 13 = .ok (.ifCond .ne 6, 3) := by decide +kernel
theorem dX2_exchange_16 : decode cX2_exchange 16 = .ok (.bipush (-11), 2) := by decide +kernel
theorem dX2_exchange_18 : decode cX2_exchange 18 = .ok (.ireturn, 1) := by decide +kernel
theorem dX2_exchange_19 : decode cX2_exchange 19 = .ok (.aload_n 0, 1) := by decide +kernel
theorem dX2_exchange_20 : decode cX2_exchange 20 = .ok (.getfield 27, 3) := by decide +kernel
theorem dX2_exchange_23 : decode cX2_exchange 23 = .ok (.iconst (-1), 1) := by decide +kernel
theorem dX2_exchange_24 : decode cX2_exchange 24 = .ok (.if_icmp .eq 24, 3) := by decide +kernel
theorem dX2_exchange_27 : decode cX2_exchange 27 = .ok (.iload_n 1, 1) := by decide +kernel
theorem dX2_exchange_28 : decode cX2_exchange 28 = .ok (.aload_n 0, 1) := by decide +kernel
theorem dX2_exchange_29 : decode cX2_exchange 29 = .ok (.getfield 31, 3) := by decide +kernel
theorem dX2_exchange_32 : decode cX2_exchange 32 = .ok (.if_icmp .lt 16, 3) := by decide +kernel
theorem dX2_exchange_35 : decode cX2_exchange 35 = .ok (.iload_n 2, 1) := by decide +kernel
theorem dX2_exchange_36 : decode cX2_exchange 36 = .ok (.aload_n 0, 1) := by decide +kernel
theorem dX2_exchange_37 : decode cX2_exchange 37 = .ok (.getfield 31, 3) := by decide +kernel
theorem dX2_exchange_40 : decode cX2_exchange 40 = .ok (.if_icmp .lt 8, 3) := by decide +kernel
theorem dX2_exchange_43 : decode cX2_exchange 43 = .ok (.iload_n 1, 1) := by decide +kernel
theorem dX2_exchange_44 : decode cX2_exchange 44 = .ok (.iload_n 2, 1) := by decide +kernel
theorem dX2_exchange_45 : decode cX2_exchange 45 = .ok (.if_icmp .ne 6, 3) := by decide +kernel
theorem dX2_exchange_48 : decode cX2_exchange 48 = .ok (.bipush (-13), 2) := by decide +kernel
theorem dX2_exchange_50 : decode cX2_exchange 50 = .ok (.ireturn, 1) := by decide +kernel
theorem dX2_exchange_51 : decode cX2_exchange 51 = .ok (.aload_n 0, 1) := by decide +kernel
theorem dX2_exchange_52 : decode cX2_exchange 52 = .ok (.iload_n 1, 1) := by decide +kernel
theorem dX2_exchange_53 : decode cX2_exchange 53 = .ok (.iload_n 2, 1) := by decide +kernel
theorem dX2_exchange_54 : decode cX2_exchange 54 = .ok (.aload_n 0, 1) := by decide +kernel
theorem dX2_exchange_55 : decode cX2_exchange 55 = .ok (.getfield 10, 3) := by decide +kernel
theorem dX2_exchange_58 : decode cX2_exchange 58 = .ok (.aload_n 0, 1) := by decide +kernel
theorem dX2_exchange_59 : decode cX2_exchange 59 = .ok (.getfield 23, 3) := by decide +kernel
theorem dX2_exchange_62 : decode cX2_exchange 62 = .ok (.aload_n 0, 1) := by decide +kernel
theorem dX2_exchange_63 : decode cX2_exchange 63 = .ok (.getfield 27, 3) := by decide +kernel
theorem dX2_exchange_66 : decode cX2_exchange 66 = .ok (.invokevirtual 123, 3) := by decide +kernel
theorem dX2_exchange_69 : decode cX2_exchange 69 = .ok (.invokevirtual 126, 3) := by decide +kernel
theorem dX2_exchange_72 : decode cX2_exchange 72 = .ok (.ifCond .ne 5, 3) := by decide +kernel
theorem dX2_exchange_75 : decode cX2_exchange 75 = .ok (.iconst 0, 1) := by decide +kernel
theorem dX2_exchange_76 : decode cX2_exchange 76 = .ok (.ireturn, 1) := by decide +kernel
theorem dX2_exchange_77 : decode cX2_exchange 77 = .ok (.aload_n 0, 1) := by decide +kernel
theorem dX2_exchange_78 : decode cX2_exchange 78 = .ok (.iconst 0, 1) := by decide +kernel
theorem dX2_exchange_79 : decode cX2_exchange 79 = .ok (.putfield 34, 3) := by decide +kernel
theorem dX2_exchange_82 : decode cX2_exchange 82 = .ok (.iconst 1, 1) := by decide +kernel
theorem dX2_exchange_83 : decode cX2_exchange 83 = .ok (.ireturn, 1) := by decide +kernel
theorem dX2_bound_0 : decode cX2_bound 0 = .ok (.aload_n 0, 1) := by decide +kernel
theorem dX2_bound_1 : decode cX2_bound 1 = .ok (.getfield 10, 3) := by decide +kernel
theorem dX2_bound_4 : decode cX2_bound 4 = .ok (.invokevirtual 130, 3) := by decide +kernel
theorem dX2_bound_7 : decode cX2_bound 7 = .ok (.lreturn, 1) := by decide +kernel
theorem dX2_isSeconds_0 : decode cX2_isSeconds 0 = .ok (.lload_n 0, 1) := by decide +kernel
theorem dX2_isSeconds_1 : decode cX2_isSeconds 1 = .ok (.lconst 0, 1) := by decide +kernel
theorem dX2_isSeconds_2 : decode cX2_isSeconds 2 = .ok (.lcmp, 1) := by decide +kernel
theorem dX2_isSeconds_3 : decode cX2_isSeconds 3 = .ok (.ifCond .lt 15, 3) := by decide +kernel
theorem dX2_isSeconds_6 : decode cX2_isSeconds 6 = .ok (.lload_n 0, 1) := by decide +kernel
theorem dX2_isSeconds_7 : decode cX2_isSeconds 7 = .ok (.ldc2_w 73, 3) := by decide +kernel
theorem dX2_isSeconds_10 : decode cX2_isSeconds 10 = .ok (.lcmp, 1) := by decide +kernel
theorem dX2_isSeconds_11 : decode cX2_isSeconds 11 = .ok (.ifCond .gt 7, 3) := by decide +kernel
theorem dX2_isSeconds_14 : decode cX2_isSeconds 14 = .ok (.iconst 1, 1) := by decide +kernel
theorem dX2_isSeconds_15 : decode cX2_isSeconds 15 = .ok (.goto 4, 3) := by decide +kernel
theorem dX2_isSeconds_18 : decode cX2_isSeconds 18 = .ok (.iconst 0, 1) := by decide +kernel
theorem dX2_isSeconds_19 : decode cX2_isSeconds 19 = .ok (.ireturn, 1) := by decide +kernel
theorem dX2_isPlace_0 : decode cX2_isPlace 0 = .ok (.iload_n 1, 1) := by decide +kernel
theorem dX2_isPlace_1 : decode cX2_isPlace 1 = .ok (.ifCond .lt 23, 3) := by decide +kernel
theorem dX2_isPlace_4 : decode cX2_isPlace 4 = .ok (.aload_n 0, 1) := by decide +kernel
theorem dX2_isPlace_5 : decode cX2_isPlace 5 = .ok (.getfield 27, 3) := by decide +kernel
theorem dX2_isPlace_8 : decode cX2_isPlace 8 = .ok (.iconst (-1), 1) := by decide +kernel
theorem dX2_isPlace_9 : decode cX2_isPlace 9 = .ok (.if_icmp .eq 11, 3) := by decide +kernel
theorem dX2_isPlace_12 : decode cX2_isPlace 12 = .ok (.iload_n 1, 1) := by decide +kernel
theorem dX2_isPlace_13 : decode cX2_isPlace 13 = .ok (.aload_n 0, 1) := by decide +kernel
theorem dX2_isPlace_14 : decode cX2_isPlace 14 = .ok (.getfield 27, 3) := by decide +kernel
theorem dX2_isPlace_17 : decode cX2_isPlace 17 = .ok (.if_icmp .ge 7, 3) := by decide +kernel
theorem dX2_isPlace_20 : decode cX2_isPlace 20 = .ok (.iconst 1, 1) := by decide +kernel
theorem dX2_isPlace_21 : decode cX2_isPlace 21 = .ok (.goto 4, 3) := by decide +kernel
theorem dX2_isPlace_24 : decode cX2_isPlace 24 = .ok (.iconst 0, 1) := by decide +kernel
theorem dX2_isPlace_25 : decode cX2_isPlace 25 = .ok (.ireturn, 1) := by decide +kernel
theorem dX2_placeOf_0 : decode cX2_placeOf 0 = .ok (.iconst 0, 1) := by decide +kernel
theorem dX2_placeOf_1 : decode cX2_placeOf 1 = .ok (.istore_n 2, 1) := by decide +kernel
theorem dX2_placeOf_2 : decode cX2_placeOf 2 = .ok (.iload_n 2, 1) := by decide +kernel
theorem dX2_placeOf_3 : decode cX2_placeOf 3 = .ok (.aload_n 0, 1) := by decide +kernel
theorem dX2_placeOf_4 : decode cX2_placeOf 4 = .ok (.getfield 27, 3) := by decide +kernel
theorem dX2_placeOf_7 : decode cX2_placeOf 7 = .ok (.if_icmp .ge 21, 3) := by decide +kernel
theorem dX2_placeOf_10 : decode cX2_placeOf 10 = .ok (.aload_n 0, 1) := by decide +kernel
theorem dX2_placeOf_11 : decode cX2_placeOf 11 = .ok (.getfield 23, 3) := by decide +kernel
theorem dX2_placeOf_14 : decode cX2_placeOf 14 = .ok (.iload_n 2, 1) := by decide +kernel
theorem dX2_placeOf_15 : decode cX2_placeOf 15 = .ok (.iaload, 1) := by decide +kernel
theorem dX2_placeOf_16 : decode cX2_placeOf 16 = .ok (.iload_n 1, 1) := by decide +kernel
theorem dX2_placeOf_17 : decode cX2_placeOf 17 = .ok (.if_icmp .ne 5, 3) := by decide +kernel
theorem dX2_placeOf_20 : decode cX2_placeOf 20 = .ok (.iload_n 2, 1) := by decide +kernel
theorem dX2_placeOf_21 : decode cX2_placeOf 21 = .ok (.ireturn, 1) := by decide +kernel
theorem dX2_placeOf_22 : decode cX2_placeOf 22 = .ok (.iinc 2 1, 3) := by decide +kernel
theorem dX2_placeOf_25 : decode cX2_placeOf 25 = .ok (.goto (-23), 3) := by decide +kernel
theorem dX2_placeOf_28 : decode cX2_placeOf 28 = .ok (.iconst (-1), 1) := by decide +kernel
theorem dX2_placeOf_29 : decode cX2_placeOf 29 = .ok (.ireturn, 1) := by decide +kernel
theorem dX2_insertFreeStops_0 : decode cX2_insertFreeStops 0 = .ok (.aload_n 0, 1) := by decide +kernel
theorem dX2_insertFreeStops_1 : decode cX2_insertFreeStops 1 = .ok (.getfield 31, 3) := by decide +kernel
theorem dX2_insertFreeStops_4 : decode cX2_insertFreeStops 4 = .ok (.istore_n 1, 1) := by decide +kernel
theorem dX2_insertFreeStops_5 : decode cX2_insertFreeStops 5 = .ok (.iconst 1, 1) := by decide +kernel
theorem dX2_insertFreeStops_6 : decode cX2_insertFreeStops 6 = .ok (.istore_n 2, 1) := by decide +kernel
theorem dX2_insertFreeStops_7 : decode cX2_insertFreeStops 7 = .ok (.iload_n 2, 1) := by decide +kernel
theorem dX2_insertFreeStops_8 : decode cX2_insertFreeStops 8 = .ok (.aload_n 0, 1) := by decide +kernel
theorem dX2_insertFreeStops_9 : decode cX2_insertFreeStops 9 = .ok (.getfield 10, 3) := by decide +kernel
theorem dX2_insertFreeStops_12 : decode cX2_insertFreeStops 12 = .ok (.getfield 47, 3) := by decide +kernel
theorem dX2_insertFreeStops_15 : decode cX2_insertFreeStops 15 = .ok (.if_icmp .gt 34, 3) := by decide +kernel
theorem dX2_insertFreeStops_18 : decode cX2_insertFreeStops 18 = .ok (.aload_n 0, 1) := by decide +kernel
theorem dX2_insertFreeStops_19 : decode cX2_insertFreeStops 19 = .ok (.getfield 23, 3) := by decide +kernel
theorem dX2_insertFreeStops_22 : decode cX2_insertFreeStops 22 = .ok (.aload_n 0, 1) := by decide +kernel
theorem dX2_insertFreeStops_23 : decode cX2_insertFreeStops 23 = .ok (.getfield 31, 3) := by decide +kernel
theorem dX2_insertFreeStops_26 : decode cX2_insertFreeStops 26 = .ok (.iload_n 2, 1) := by decide +kernel
theorem dX2_insertFreeStops_27 : decode cX2_insertFreeStops 27 = .ok (.invokestatic 134, 3) := by decide +kernel
theorem dX2_insertFreeStops_30 : decode cX2_insertFreeStops 30 = .ok (.ifCond .ne 13, 3) := by decide +kernel
theorem dX2_insertFreeStops_33 : decode cX2_insertFreeStops 33 = .ok (.aload_n 0, 1) := by decide +kernel
theorem dX2_insertFreeStops_34 : decode cX2_insertFreeStops 34 = .ok (.iload_n 2, 1) := by decide +kernel
theorem dX2_insertFreeStops_35 : decode cX2_insertFreeStops 35 = .ok (.iload_n 1, 1) := by decide +kernel
theorem dX2_insertFreeStops_36 : decode cX2_insertFreeStops 36 = .ok (.invokevirtual 112, 3) := by decide +kernel
theorem dX2_insertFreeStops_39 : decode cX2_insertFreeStops 39 = .ok (.pop, 1) := by decide +kernel
theorem dX2_insertFreeStops_40 : decode cX2_insertFreeStops 40 = .ok (.iinc 1 1, 3) := by decide +kernel
theorem dX2_insertFreeStops_43 : decode cX2_insertFreeStops 43 = .ok (.iinc 2 1, 3) := by decide +kernel
theorem dX2_insertFreeStops_46 : decode cX2_insertFreeStops 46 = .ok (.goto (-39), 3) := by decide +kernel
theorem dX2_insertFreeStops_49 : decode cX2_insertFreeStops 49 = .ok (.return_, 1) := by decide +kernel
theorem dX2_insert_0 : decode cX2_insert 0 = .ok (.iload_n 2, 1) := by decide +kernel
theorem dX2_insert_1 : decode cX2_insert 1 = .ok (.istore_n 3, 1) := by decide +kernel
theorem dX2_insert_2 : decode cX2_insert 2 = .ok (.iload_n 3, 1) := by decide +kernel
theorem dX2_insert_3 : decode cX2_insert 3 = .ok (.aload_n 0, 1) := by decide +kernel
theorem dX2_insert_4 : decode cX2_insert 4 = .ok (.getfield 31, 3) := by decide +kernel
theorem dX2_insert_7 : decode cX2_insert 7 = .ok (.if_icmp .le 23, 3) := by decide +kernel
theorem dX2_insert_10 : decode cX2_insert 10 = .ok (.aload_n 0, 1) := by decide +kernel
theorem dX2_insert_11 : decode cX2_insert 11 = .ok (.getfield 23, 3) := by decide +kernel
theorem dX2_insert_14 : decode cX2_insert 14 = .ok (.iload_n 3, 1) := by decide +kernel
theorem dX2_insert_15 : decode cX2_insert 15 = .ok (.aload_n 0, 1) := by decide +kernel
theorem dX2_insert_16 : decode cX2_insert 16 = .ok (.getfield 23, 3) := by decide +kernel
theorem dX2_insert_19 : decode cX2_insert 19 = .ok (.iload_n 3, 1) := by decide +kernel
theorem dX2_insert_20 : decode cX2_insert 20 = .ok (.iconst 1, 1) := by decide +kernel
theorem dX2_insert_21 : decode cX2_insert 21 = .ok (.isub, 1) := by decide +kernel
theorem dX2_insert_22 : decode cX2_insert 22 = .ok (.iaload, 1) := by decide +kernel
theorem dX2_insert_23 : decode cX2_insert 23 = .ok (.iastore, 1) := by decide +kernel
theorem dX2_insert_24 : decode cX2_insert 24 = .ok (.iinc 3 (-1), 3) := by decide +kernel
theorem dX2_insert_27 : decode cX2_insert 27 = .ok (.goto (-25), 3) := by decide +kernel
theorem dX2_insert_30 : decode cX2_insert 30 = .ok (.aload_n 0, 1) := by decide +kernel
theorem dX2_insert_31 : decode cX2_insert 31 = .ok (.getfield 23, 3) := by decide +kernel
theorem dX2_insert_34 : decode cX2_insert 34 = .ok (.aload_n 0, 1) := by decide +kernel
theorem dX2_insert_35 : decode cX2_insert 35 = .ok (.getfield 31, 3) := by decide +kernel
theorem dX2_insert_38 : decode cX2_insert 38 = .ok (.iload_n 1, 1) := by decide +kernel
theorem dX2_insert_39 : decode cX2_insert 39 = .ok (.iastore, 1) := by decide +kernel
theorem dX2_insert_40 : decode cX2_insert 40 = .ok (.aload_n 0, 1) := by decide +kernel
theorem dX2_insert_41 : decode cX2_insert 41 = .ok (.getfield 31, 3) := by decide +kernel
theorem dX2_insert_44 : decode cX2_insert 44 = .ok (.istore_n 3, 1) := by decide +kernel
theorem dX2_insert_45 : decode cX2_insert 45 = .ok (.aload_n 0, 1) := by decide +kernel
theorem dX2_insert_46 : decode cX2_insert 46 = .ok (.getfield 10, 3) := by decide +kernel
theorem dX2_insert_49 : decode cX2_insert 49 = .ok (.aload_n 0, 1) := by decide +kernel
theorem dX2_insert_50 : decode cX2_insert 50 = .ok (.getfield 23, 3) := by decide +kernel
theorem dX2_insert_53 : decode cX2_insert 53 = .ok (.iload_n 2, 1) := by decide +kernel
theorem dX2_insert_54 : decode cX2_insert 54 = .ok (.iconst 1, 1) := by decide +kernel
theorem dX2_insert_55 : decode cX2_insert 55 = .ok (.iadd, 1) := by decide +kernel
theorem dX2_insert_56 : decode cX2_insert 56 = .ok (.invokevirtual 123, 3) := by decide +kernel
theorem dX2_insert_59 : decode cX2_insert 59 = .ok (.lstore 4, 2) := by decide +kernel
theorem dX2_insert_61 : decode cX2_insert 61 = .ok (.aload_n 0, 1) := by decide +kernel
theorem dX2_insert_62 : decode cX2_insert 62 = .ok (.getfield 31, 3) := by decide +kernel
theorem dX2_insert_65 : decode cX2_insert 65 = .ok (.istore 6, 2) := by decide +kernel
theorem dX2_insert_67 : decode cX2_insert 67 = .ok (.iload 6, 2) := by decide +kernel
theorem dX2_insert_69 : decode cX2_insert 69 = .ok (.iload_n 2, 1) := by decide +kernel
theorem dX2_insert_70 : decode cX2_insert 70 = .ok (.if_icmp .ge 52, 3) := by decide +kernel
theorem dX2_insert_73 : decode cX2_insert 73 = .ok (.aload_n 0, 1) := by decide +kernel
theorem dX2_insert_74 : decode cX2_insert 74 = .ok (.iload 6, 2) := by decide +kernel
theorem dX2_insert_76 : decode cX2_insert 76 = .ok (.iload 6, 2) := by decide +kernel
theorem dX2_insert_78 : decode cX2_insert 78 = .ok (.iconst 1, 1) := by decide +kernel
theorem dX2_insert_79 : decode cX2_insert 79 = .ok (.iadd, 1) := by decide +kernel
theorem dX2_insert_80 : decode cX2_insert 80 = .ok (.invokevirtual 109, 3) := by decide +kernel
theorem dX2_insert_83 : decode cX2_insert 83 = .ok (.aload_n 0, 1) := by decide +kernel
theorem dX2_insert_84 : decode cX2_insert 84 = .ok (.getfield 10, 3) := by decide +kernel
theorem dX2_insert_87 : decode cX2_insert 87 = .ok (.aload_n 0, 1) := by decide +kernel
theorem dX2_insert_88 : decode cX2_insert 88 = .ok (.getfield 23, 3) := by decide +kernel
theorem dX2_insert_91 : decode cX2_insert 91 = .ok (.iload_n 2, 1) := by decide +kernel
theorem dX2_insert_92 : decode cX2_insert 92 = .ok (.iconst 1, 1) := by decide +kernel
theorem dX2_insert_93 : decode cX2_insert 93 = .ok (.iadd, 1) := by decide +kernel
theorem dX2_insert_94 : decode cX2_insert 94 = .ok (.invokevirtual 123, 3) := by decide +kernel
theorem dX2_insert_97 : decode cX2_insert 97 = .ok (.lstore 7, 2) := by decide +kernel
theorem dX2_insert_99 : decode cX2_insert 99 = .ok (.lload 7, 2) := by decide +kernel
theorem dX2_insert_101 : decode cX2_insert 101 = .ok (.lload 4, 2) := by decide +kernel
theorem dX2_insert_103 : decode cX2_insert 103 = .ok (.lcmp, 1) := by decide +kernel
theorem dX2_insert_104 : decode cX2_insert 104 = .ok (.ifCond .ge 12, 3) := by decide +kernel
theorem dX2_insert_107 : decode cX2_insert 107 = .ok (.lload 7, 2) := by decide +kernel
theorem dX2_insert_109 : decode cX2_insert 109 = .ok (.lstore 4, 2) := by decide +kernel
theorem dX2_insert_111 : decode cX2_insert 111 = .ok (.iload 6, 2) := by decide +kernel
theorem dX2_insert_113 : decode cX2_insert 113 = .ok (.iconst 1, 1) := by decide +kernel
theorem dX2_insert_114 : decode cX2_insert 114 = .ok (.iadd, 1) := by decide +kernel
theorem dX2_insert_115 : decode cX2_insert 115 = .ok (.istore_n 3, 1) := by decide +kernel
theorem dX2_insert_116 : decode cX2_insert 116 = .ok (.iinc 6 1, 3) := by decide +kernel
theorem dX2_insert_119 : decode cX2_insert 119 = .ok (.goto (-52), 3) := by decide +kernel
theorem dX2_insert_122 : decode cX2_insert 122 = .ok (.iload_n 2, 1) := by decide +kernel
theorem dX2_insert_123 : decode cX2_insert 123 = .ok (.istore 6, 2) := by decide +kernel
theorem dX2_insert_125 : decode cX2_insert 125 = .ok (.iload 6, 2) := by decide +kernel
theorem dX2_insert_127 : decode cX2_insert 127 = .ok (.iload_n 3, 1) := by decide +kernel
theorem dX2_insert_128 : decode cX2_insert 128 = .ok (.if_icmp .le 19, 3) := by decide +kernel
theorem dX2_insert_131 : decode cX2_insert 131 = .ok (.aload_n 0, 1) := by decide +kernel
theorem dX2_insert_132 : decode cX2_insert 132 = .ok (.iload 6, 2) := by decide +kernel
theorem dX2_insert_134 : decode cX2_insert 134 = .ok (.iload 6, 2) := by decide +kernel
theorem dX2_insert_136 : decode cX2_insert 136 = .ok (.iconst 1, 1) := by decide +kernel
theorem dX2_insert_137 : decode cX2_insert 137 = .ok (.isub, 1) := by decide +kernel
theorem dX2_insert_138 : decode cX2_insert 138 = .ok (.invokevirtual 109, 3) := by decide +kernel
theorem dX2_insert_141 : decode cX2_insert 141 = .ok (.iinc 6 (-1), 3) := by decide +kernel
theorem dX2_insert_144 : decode cX2_insert 144 = .ok (.goto (-19), 3) := by decide +kernel
theorem dX2_insert_147 : decode cX2_insert 147 = .ok (.iload_n 3, 1) := by decide +kernel
theorem dX2_insert_148 : decode cX2_insert 148 = .ok (.ireturn, 1) := by decide +kernel
theorem dX2_improve_0 : decode cX2_improve 0 = .ok (.aload_n 0, 1) := by decide +kernel
theorem dX2_improve_1 : decode cX2_improve 1 = .ok (.getfield 10, 3) := by decide +kernel
theorem dX2_improve_4 : decode cX2_improve 4 = .ok (.aload_n 0, 1) := by decide +kernel
theorem dX2_improve_5 : decode cX2_improve 5 = .ok (.getfield 23, 3) := by decide +kernel
theorem dX2_improve_8 : decode cX2_improve 8 = .ok (.aload_n 0, 1) := by decide +kernel
theorem dX2_improve_9 : decode cX2_improve 9 = .ok (.getfield 27, 3) := by decide +kernel
theorem dX2_improve_12 : decode cX2_improve 12 = .ok (.invokevirtual 123, 3) := by decide +kernel
theorem dX2_improve_15 : decode cX2_improve 15 = .ok (.lstore_n 3, 1) := by decide +kernel
theorem dX2_improve_16 : decode cX2_improve 16 = .ok (.aload_n 0, 1) := by decide +kernel
theorem dX2_improve_17 : decode cX2_improve 17 = .ok (.getfield 31, 3) := by decide +kernel
theorem dX2_improve_20 : decode cX2_improve 20 = .ok (.istore 5, 2) := by decide +kernel
theorem dX2_improve_22 : decode cX2_improve 22 = .ok (.iload 5, 2) := by decide +kernel
theorem dX2_improve_24 : decode cX2_improve 24 = .ok (.iconst 1, 1) := by decide +kernel
theorem dX2_improve_25 : decode cX2_improve 25 = .ok (.iadd, 1) := by decide +kernel
theorem dX2_improve_26 : decode cX2_improve 26 = .ok (.istore 6, 2) := by decide +kernel
theorem dX2_improve_28 : decode cX2_improve 28 = .ok (.lconst 0, 1) := by decide +kernel
theorem dX2_improve_29 : decode cX2_improve 29 = .ok (.lstore 7, 2) := by decide +kernel
theorem dX2_improve_31 : decode cX2_improve 31 = .ok (.lload 7, 2) := by decide +kernel
theorem dX2_improve_33 : decode cX2_improve 33 = .ok (.lload_n 1, 1) := by decide +kernel
theorem dX2_improve_34 : decode cX2_improve 34 = .ok (.lcmp, 1) := by decide +kernel
theorem dX2_improve_35 : decode cX2_improve 35 = .ok (.ifCond .ge 90, 3) := by decide +kernel
theorem dX2_improve_38 : decode cX2_improve 38 = .ok (.iload 6, 2) := by decide +kernel
theorem dX2_improve_40 : decode cX2_improve 40 = .ok (.aload_n 0, 1) := by decide +kernel
theorem dX2_improve_41 : decode cX2_improve 41 = .ok (.getfield 27, 3) := by decide +kernel
theorem dX2_improve_44 : decode cX2_improve 44 = .ok (.if_icmp .ge 81, 3) := by decide +kernel
theorem dX2_improve_47 : decode cX2_improve 47 = .ok (.aload_n 0, 1) := by decide +kernel
theorem dX2_improve_48 : decode cX2_improve 48 = .ok (.iload 5, 2) := by decide +kernel
theorem dX2_improve_50 : decode cX2_improve 50 = .ok (.iload 6, 2) := by decide +kernel
theorem dX2_improve_52 : decode cX2_improve 52 = .ok (.lload_n 3, 1) := by decide +kernel
theorem dX2_improve_53 : decode cX2_improve 53 = .ok (.invokevirtual 126, 3) := by decide +kernel
theorem dX2_improve_56 : decode cX2_improve 56 = .ok (.ifCond .eq 34, 3) := by decide +kernel
theorem dX2_improve_59 : decode cX2_improve 59 = .ok (.aload_n 0, 1) := by decide +kernel
theorem dX2_improve_60 : decode cX2_improve 60 = .ok (.getfield 10, 3) := by decide +kernel
theorem dX2_improve_63 : decode cX2_improve 63 = .ok (.aload_n 0, 1) := by decide +kernel
theorem dX2_improve_64 : decode cX2_improve 64 = .ok (.getfield 23, 3) := by decide +kernel
theorem dX2_improve_67 : decode cX2_improve 67 = .ok (.aload_n 0, 1) := by decide +kernel
theorem dX2_improve_68 : decode cX2_improve 68 = .ok (.getfield 27, 3) := by decide +kernel
theorem dX2_improve_71 : decode cX2_improve 71 = .ok (.invokevirtual 123, 3) := by decide +kernel
theorem dX2_improve_74 : decode cX2_improve 74 = .ok (.lstore_n 3, 1) := by decide +kernel
theorem dX2_improve_75 : decode cX2_improve 75 = .ok (.aload_n 0, 1) := by decide +kernel
theorem dX2_improve_76 : decode cX2_improve 76 = .ok (.getfield 31, 3) := by decide +kernel
theorem dX2_improve_79 : decode cX2_improve 79 = .ok (.istore 5, 2) := by decide +kernel
theorem dX2_improve_81 : decode cX2_improve 81 = .ok (.iload 5, 2) := by decide +kernel
theorem dX2_improve_83 : decode cX2_improve 83 = .ok (.iconst 1, 1) := by decide +kernel
theorem dX2_improve_84 : decode cX2_improve 84 = .ok (.iadd, 1) := by decide +kernel
theorem dX2_improve_85 : decode cX2_improve 85 = .ok (.istore 6, 2) := by decide +kernel
theorem dX2_improve_87 : decode cX2_improve 87 = .ok (.goto 29, 3) := by decide +kernel
theorem dX2_improve_90 : decode cX2_improve 90 = .ok (.iload 6, 2) := by decide +kernel
theorem dX2_improve_92 : decode cX2_improve 92 = .ok (.iconst 1, 1) := by decide +kernel
theorem dX2_improve_93 : decode cX2_improve 93 = .ok (.iadd, 1) := by decide +kernel
theorem dX2_improve_94 : decode cX2_improve 94 = .ok (.aload_n 0, 1) := by decide +kernel
theorem dX2_improve_95 : decode cX2_improve 95 = .ok (.getfield 27, 3) := by decide +kernel
theorem dX2_improve_98 : decode cX2_improve 98 = .ok (.if_icmp .ge 9, 3) := by decide +kernel
theorem dX2_improve_101 : decode cX2_improve 101 = .ok (.iinc 6 1, 3) := by decide +kernel
theorem dX2_improve_104 : decode cX2_improve 104 = .ok (.goto 12, 3) := by decide +kernel
theorem dX2_improve_107 : decode cX2_improve 107 = .ok (.iinc 5 1, 3) := by decide +kernel
theorem dX2_improve_110 : decode cX2_improve 110 = .ok (.iload 5, 2) := by decide +kernel
theorem dX2_improve_112 : decode cX2_improve 112 = .ok (.iconst 1, 1) := by decide +kernel
theorem dX2_improve_113 : decode cX2_improve 113 = .ok (.iadd, 1) := by decide +kernel
theorem dX2_improve_114 : decode cX2_improve 114 = .ok (.istore 6, 2) := by decide +kernel
theorem dX2_improve_116 : decode cX2_improve 116 = .ok (.lload 7, 2) := by decide +kernel
theorem dX2_improve_118 : decode cX2_improve 118 = .ok (.lconst 1, 1) := by decide +kernel
theorem dX2_improve_119 : decode cX2_improve 119 = .ok (.ladd, 1) := by decide +kernel
theorem dX2_improve_120 : decode cX2_improve 120 = .ok (.lstore 7, 2) := by decide +kernel
theorem dX2_improve_122 : decode cX2_improve 122 = .ok (.goto (-91), 3) := by decide +kernel
theorem dX2_improve_125 : decode cX2_improve 125 = .ok (.return_, 1) := by decide +kernel
theorem dX2_swapIfLess_0 : decode cX2_swapIfLess 0 = .ok (.aload_n 0, 1) := by decide +kernel
theorem dX2_swapIfLess_1 : decode cX2_swapIfLess 1 = .ok (.iload_n 1, 1) := by decide +kernel
theorem dX2_swapIfLess_2 : decode cX2_swapIfLess 2 = .ok (.iload_n 2, 1) := by decide +kernel
theorem dX2_swapIfLess_3 : decode cX2_swapIfLess 3 = .ok (.invokevirtual 109, 3) := by decide +kernel
theorem dX2_swapIfLess_6 : decode cX2_swapIfLess 6 = .ok (.aload_n 0, 1) := by decide +kernel
theorem dX2_swapIfLess_7 : decode cX2_swapIfLess 7 = .ok (.getfield 10, 3) := by decide +kernel
theorem dX2_swapIfLess_10 : decode cX2_swapIfLess 10 = .ok (.aload_n 0, 1) := by decide +kernel
theorem dX2_swapIfLess_11 : decode cX2_swapIfLess 11 = .ok (.getfield 23, 3) := by decide +kernel
theorem dX2_swapIfLess_14 : decode cX2_swapIfLess 14 = .ok (.aload_n 0, 1) := by decide +kernel
theorem dX2_swapIfLess_15 : decode cX2_swapIfLess 15 = .ok (.getfield 27, 3) := by decide +kernel
theorem dX2_swapIfLess_18 : decode cX2_swapIfLess 18 = .ok (.invokevirtual 123, 3) := by decide +kernel
theorem dX2_swapIfLess_21 : decode cX2_swapIfLess 21 = .ok (.lload_n 3, 1) := by decide +kernel
theorem dX2_swapIfLess_22 : decode cX2_swapIfLess 22 = .ok (.lcmp, 1) := by decide +kernel
theorem dX2_swapIfLess_23 : decode cX2_swapIfLess 23 = .ok (.ifCond .ge 5, 3) := by decide +kernel
theorem dX2_swapIfLess_26 : decode cX2_swapIfLess 26 = .ok (.iconst 1, 1) := by decide +kernel
theorem dX2_swapIfLess_27 : decode cX2_swapIfLess 27 = .ok (.ireturn, 1) := by decide +kernel
theorem dX2_swapIfLess_28 : decode cX2_swapIfLess 28 = .ok (.aload_n 0, 1) := by decide +kernel
theorem dX2_swapIfLess_29 : decode cX2_swapIfLess 29 = .ok (.iload_n 1, 1) := by decide +kernel
theorem dX2_swapIfLess_30 : decode cX2_swapIfLess 30 = .ok (.iload_n 2, 1) := by decide +kernel
theorem dX2_swapIfLess_31 : decode cX2_swapIfLess 31 = .ok (.invokevirtual 109, 3) := by decide +kernel
theorem dX2_swapIfLess_34 : decode cX2_swapIfLess 34 = .ok (.iconst 0, 1) := by decide +kernel
theorem dX2_swapIfLess_35 : decode cX2_swapIfLess 35 = .ok (.ireturn, 1) := by decide +kernel
theorem dX2_swap_0 : decode cX2_swap 0 = .ok (.aload_n 0, 1) := by decide +kernel
theorem dX2_swap_1 : decode cX2_swap 1 = .ok (.getfield 23, 3) := by decide +kernel
theorem dX2_swap_4 : decode cX2_swap 4 = .ok (.iload_n 1, 1) := by decide +kernel
theorem dX2_swap_5 : decode cX2_swap 5 = .ok (.iaload, 1) := by decide +kernel
theorem dX2_swap_6 : decode cX2_swap 6 = .ok (.istore_n 3, 1) := by decide +kernel
theorem dX2_swap_7 : decode cX2_swap 7 = .ok (.aload_n 0, 1) := by decide +kernel
theorem dX2_swap_8 : decode cX2_swap 8 = .ok (.getfield 23, 3) := by decide +kernel
theorem dX2_swap_11 : decode cX2_swap 11 = .ok (.iload_n 1, 1) := by decide +kernel
theorem dX2_swap_12 : decode cX2_swap 12 = .ok (.aload_n 0, 1) := by decide +kernel
theorem dX2_swap_13 : decode cX2_swap 13 = .ok (.getfield 23, 3) := by decide +kernel
theorem dX2_swap_16 : decode cX2_swap 16 = .ok (.iload_n 2, 1) := by decide +kernel
theorem dX2_swap_17 : decode cX2_swap 17 = .ok (.iaload, 1) := by decide +kernel
theorem dX2_swap_18 : decode cX2_swap 18 = .ok (.iastore, 1) := by decide +kernel
theorem dX2_swap_19 : decode cX2_swap 19 = .ok (.aload_n 0, 1) := by decide +kernel
theorem dX2_swap_20 : decode cX2_swap 20 = .ok (.getfield 23, 3) := by decide +kernel
theorem dX2_swap_23 : decode cX2_swap 23 = .ok (.iload_n 2, 1) := by decide +kernel
theorem dX2_swap_24 : decode cX2_swap 24 = .ok (.iload_n 3, 1) := by decide +kernel
theorem dX2_swap_25 : decode cX2_swap 25 = .ok (.iastore, 1) := by decide +kernel
theorem dX2_swap_26 : decode cX2_swap 26 = .ok (.return_, 1) := by decide +kernel
theorem dX3_init_0 : decode cX3_init 0 = .ok (.aload_n 0, 1) := by decide +kernel
theorem dX3_init_1 : decode cX3_init 1 = .ok (.invokespecial 1, 3) := by decide +kernel
theorem dX3_init_4 : decode cX3_init 4 = .ok (.aload_n 0, 1) := by decide +kernel
theorem dX3_init_5 : decode cX3_init 5 = .ok (.bipush 21, 2) := by decide +kernel
theorem dX3_init_7 : decode cX3_init 7 = .ok (.newarray .long, 2) := by decide +kernel
theorem dX3_init_9 : decode cX3_init 9 = .ok (.putfield 7, 3) := by decide +kernel
theorem dX3_init_12 : decode cX3_init 12 = .ok (.aload_n 0, 1) := by decide +kernel
theorem dX3_init_13 : decode cX3_init 13 = .ok (.bipush 21, 2) := by decide +kernel
theorem dX3_init_15 : decode cX3_init 15 = .ok (.newarray .long, 2) := by decide +kernel
theorem dX3_init_17 : decode cX3_init 17 = .ok (.putfield 13, 3) := by decide +kernel
theorem dX3_init_20 : decode cX3_init 20 = .ok (.aload_n 0, 1) := by decide +kernel
theorem dX3_init_21 : decode cX3_init 21 = .ok (.bipush 21, 2) := by decide +kernel
theorem dX3_init_23 : decode cX3_init 23 = .ok (.newarray .long, 2) := by decide +kernel
theorem dX3_init_25 : decode cX3_init 25 = .ok (.putfield 16, 3) := by decide +kernel
theorem dX3_init_28 : decode cX3_init 28 = .ok (.aload_n 0, 1) := by decide +kernel
theorem dX3_init_29 : decode cX3_init 29 = .ok (.bipush 21, 2) := by decide +kernel
theorem dX3_init_31 : decode cX3_init 31 = .ok (.newarray .int, 2) := by decide +kernel
theorem dX3_init_33 : decode cX3_init 33 = .ok (.putfield 19, 3) := by decide +kernel
theorem dX3_init_36 : decode cX3_init 36 = .ok (.aload_n 0, 1) := by decide +kernel
theorem dX3_init_37 : decode cX3_init 37 = .ok (.iconst (-1), 1) := by decide +kernel
theorem dX3_init_38 : decode cX3_init 38 = .ok (.putfield 23, 3) := by decide +kernel
theorem dX3_init_41 : decode cX3_init 41 = .ok (.aload_n 0, 1) := by decide +kernel
theorem dX3_init_42 : decode cX3_init 42 = .ok (.sipush 441, 3) := by decide +kernel
theorem dX3_init_45 : decode cX3_init 45 = .ok (.newarray .long, 2) := by decide +kernel
theorem dX3_init_47 : decode cX3_init 47 = .ok (.putfield 27, 3) := by decide +kernel
theorem dX3_init_50 : decode cX3_init 50 = .ok (.aload_n 0, 1) := by decide +kernel
theorem dX3_init_51 : decode cX3_init 51 = .ok (.sipush 441, 3) := by decide +kernel
theorem dX3_init_54 : decode cX3_init 54 = .ok (.newarray .boolean, 2) := by decide +kernel
theorem dX3_init_56 : decode cX3_init 56 = .ok (.putfield 30, 3) := by decide +kernel
theorem dX3_init_59 : decode cX3_init 59 = .ok (.aload_n 0, 1) := by decide +kernel
theorem dX3_init_60 : decode cX3_init 60 = .ok (.bipush 20, 2) := by decide +kernel
theorem dX3_init_62 : decode cX3_init 62 = .ok (.newarray .int, 2) := by decide +kernel
theorem dX3_init_64 : decode cX3_init 64 = .ok (.putfield 34, 3) := by decide +kernel
theorem dX3_init_67 : decode cX3_init 67 = .ok (.aload_n 0, 1) := by decide +kernel
theorem dX3_init_68 : decode cX3_init 68 = .ok (.bipush 20, 2) := by decide +kernel
theorem dX3_init_70 : decode cX3_init 70 = .ok (.newarray .int, 2) := by decide +kernel
theorem dX3_init_72 : decode cX3_init 72 = .ok (.putfield 37, 3) := by decide +kernel
theorem dX3_init_75 : decode cX3_init 75 = .ok (.aload_n 0, 1) := by decide +kernel
theorem dX3_init_76 : decode cX3_init 76 = .ok (.bipush 20, 2) := by decide +kernel
theorem dX3_init_78 : decode cX3_init 78 = .ok (.newarray .int, 2) := by decide +kernel
theorem dX3_init_80 : decode cX3_init 80 = .ok (.putfield 40, 3) := by decide +kernel
theorem dX3_init_83 : decode cX3_init 83 = .ok (.aload_n 0, 1) := by decide +kernel
theorem dX3_init_84 : decode cX3_init 84 = .ok (.sipush 22528, 3) := by decide +kernel
theorem dX3_init_87 : decode cX3_init 87 = .ok (.newarray .long, 2) := by decide +kernel
theorem dX3_init_89 : decode cX3_init 89 = .ok (.putfield 43, 3) := by decide +kernel
theorem dX3_init_92 : decode cX3_init 92 = .ok (.aload_n 0, 1) := by decide +kernel
theorem dX3_init_93 : decode cX3_init 93 = .ok (.bipush 21, 2) := by decide +kernel
theorem dX3_init_95 : decode cX3_init 95 = .ok (.newarray .int, 2) := by decide +kernel
theorem dX3_init_97 : decode cX3_init 97 = .ok (.putfield 46, 3) := by decide +kernel
theorem dX3_init_100 : decode cX3_init 100 = .ok (.iconst 0, 1) := by decide +kernel
theorem dX3_init_101 : decode cX3_init 101 = .ok (.istore_n 1, 1) := by decide +kernel
theorem dX3_init_102 : decode cX3_init 102 = .ok (.iload_n 1, 1) := by decide +kernel
theorem dX3_init_103 : decode cX3_init 103 = .ok (.sipush 441, 3) := by decide +kernel
theorem dX3_init_106 : decode cX3_init 106 = .ok (.if_icmp .ge 18, 3) := by decide +kernel
theorem dX3_init_109 : decode cX3_init 109 = .ok (.aload_n 0, 1) := by decide +kernel
theorem dX3_init_110 : decode cX3_init 110 = .ok (.getfield 27, 3) := by decide +kernel
theorem dX3_init_113 : decode cX3_init 113 = .ok (.iload_n 1, 1) := by decide +kernel
theorem dX3_init_114 : decode cX3_init 114 = .ok (.ldc2_w 49, 3) := by decide +kernel
theorem dX3_init_117 : decode cX3_init 117 = .ok (.lastore, 1) := by decide +kernel
theorem dX3_init_118 : decode cX3_init 118 = .ok (.iinc 1 1, 3) := by decide +kernel
theorem dX3_init_121 : decode cX3_init 121 = .ok (.goto (-19), 3) := by decide +kernel
theorem dX3_init_124 : decode cX3_init 124 = .ok (.return_, 1) := by decide +kernel
theorem dX3_thrown_0 : decode cX3_thrown 0 = .ok (.aload_n 0, 1) := by decide +kernel
theorem dX3_thrown_1 : decode cX3_thrown 1 = .ok (.getfield 51, 3) := by decide +kernel
theorem dX3_thrown_4 : decode cX3_thrown 4 = .ok (.ireturn, 1) := by decide +kernel
theorem dX3_isStop_0 : decode cX3_isStop 0 = .ok (.iload_n 1, 1) := by decide +kernel
theorem dX3_isStop_1 : decode cX3_isStop 1 = .ok (.ifCond .le 15, 3) := by decide +kernel
theorem dX3_isStop_4 : decode cX3_isStop 4 = .ok (.iload_n 1, 1) := by decide +kernel
theorem dX3_isStop_5 : decode cX3_isStop 5 = .ok (.aload_n 0, 1) := by decide +kernel
theorem dX3_isStop_6 : decode cX3_isStop 6 = .ok (.getfield 54, 3) := by decide +kernel
theorem dX3_isStop_9 : decode cX3_isStop 9 = .ok (.if_icmp .gt 7, 3) := by decide +kernel
theorem dX3_isStop_12 : decode cX3_isStop 12 = .ok (.iconst 1, 1) := by decide +kernel
theorem dX3_isStop_13 : decode cX3_isStop 13 = .ok (.goto 4, 3) := by decide +kernel
theorem dX3_isStop_16 : decode cX3_isStop 16 = .ok (.iconst 0, 1) := by decide +kernel
theorem dX3_isStop_17 : decode cX3_isStop 17 = .ok (.ireturn, 1) := by decide +kernel
theorem dX3_isPlace_0 : decode cX3_isPlace 0 = .ok (.iload_n 1, 1) := by decide +kernel
theorem dX3_isPlace_1 : decode cX3_isPlace 1 = .ok (.ifCond .lt 15, 3) := by decide +kernel
theorem dX3_isPlace_4 : decode cX3_isPlace 4 = .ok (.iload_n 1, 1) := by decide +kernel
theorem dX3_isPlace_5 : decode cX3_isPlace 5 = .ok (.aload_n 0, 1) := by decide +kernel
theorem dX3_isPlace_6 : decode cX3_isPlace 6 = .ok (.getfield 54, 3) := by decide +kernel
theorem dX3_isPlace_9 : decode cX3_isPlace 9 = .ok (.if_icmp .gt 7, 3) := by decide +kernel
theorem dX3_isPlace_12 : decode cX3_isPlace 12 = .ok (.iconst 1, 1) := by decide +kernel
theorem dX3_isPlace_13 : decode cX3_isPlace 13 = .ok (.goto 4, 3) := by decide +kernel
theorem dX3_isPlace_16 : decode cX3_isPlace 16 = .ok (.iconst 0, 1) := by decide +kernel
theorem dX3_isPlace_17 : decode cX3_isPlace 17 = .ok (.ireturn, 1) := by decide +kernel
theorem dX3_stop_0 : decode cX3_stop 0 = .ok (.aload_n 0, 1) := by decide +kernel
theorem dX3_stop_1 : decode cX3_stop 1 = .ok (.iconst 0, 1) := by decide +kernel
theorem dX3_stop_2 : decode cX3_stop 2 = .ok (.putfield 51, 3) := by decide +kernel
theorem dX3_stop_5 : decode cX3_stop 5 = .ok (.lload_n 1, 1) := by decide +kernel
theorem dX3_stop_6 : decode cX3_stop 6 = .ok (.lconst 0, 1) := by decide +kernel
theorem dX3_stop_7 : decode cX3_stop 7 = .ok (.lcmp, 1) := by decide +kernel
theorem dX3_stop_8 : decode cX3_stop 8 = .ok (.ifCond .lt 33, 3) := by decide +kernel
theorem dX3_stop_11 : decode cX3_stop 11 = .ok (.lload_n 1, 1) := by decide +kernel
theorem dX3_stop_12 : decode cX3_stop 12 = .ok (.ldc2_w 57, 3) := by decide +kernel
theorem dX3_stop_15 : decode cX3_stop 15 = .ok (.lcmp, 1) := by decide +kernel
theorem dX3_stop_16 : decode cX3_stop 16 = .ok (.ifCond .gt 25, 3) := by decide +kernel
theorem dX3_stop_19 : decode cX3_stop 19 = .ok (.lload_n 3, 1) := by decide +kernel
theorem dX3_stop_20 : decode cX3_stop 20 = .ok (.lconst 0, 1) := by decide +kernel
theorem dX3_stop_21 : decode cX3_stop 21 = .ok (.lcmp, 1) := by decide +kernel
theorem dX3_stop_22 : decode cX3_stop 22 = .ok (.ifCond .lt 19, 3) := by decide +kernel
theorem dX3_stop_25 : decode cX3_stop 25 = .ok (.lload_n 3, 1) := by decide +kernel
theorem dX3_stop_26 : decode cX3_stop 26 = .ok (.lload 5, 2) := by decide +kernel
theorem dX3_stop_28 : decode cX3_stop 28 = .ok (.lcmp, 1) := by decide +kernel
theorem dX3_stop_29 : decode cX3_stop 29 = .ok (.ifCond .gt 12, 3) := by decide +kernel
theorem dX3_stop_32 : decode cX3_stop 32 = .ok (.lload 5, 2) := by decide +kernel
theorem dX3_stop_34 : decode cX3_stop 34 = .ok (.ldc2_w 59, 3) := by decide +kernel
theorem dX3_stop_37 : decode cX3_stop 37 = .ok (.lcmp, 1) := by decide +kernel
theorem dX3_stop_38 : decode cX3_stop 38 = .ok (.ifCond .le 6, 3) := by decide +kernel
theorem dX3_stop_41 : decode cX3_stop 41 = .ok (.bipush (-12), 2) := by decide +kernel
theorem dX3_stop_43 : decode cX3_stop 43 = .ok (.ireturn, 1) := by decide +kernel
theorem dX3_stop_44 : decode cX3_stop 44 = .ok (.aload_n 0, 1) := by decide +kernel
theorem dX3_stop_45 : decode cX3_stop 45 = .ok (.getfield 54, 3) := by decide +kernel
theorem dX3_stop_48 : decode cX3_stop 48 = .ok (.bipush 20, 2) := by decide +kernel
theorem dX3_stop_50 : decode cX3_stop 50 = .ok (.if_icmp .ne 6, 3) := by decide +kernel
theorem dX3_stop_53 : decode cX3_stop 53 = .ok (.bipush (-14), 2) := by decide +kernel
theorem dX3_stop_55 : decode cX3_stop 55 = .ok (.ireturn, 1) := by decide +kernel
theorem dX3_stop_56 : decode cX3_stop 56 = .ok (.aload_n 0, 1) := by decide +kernel
theorem dX3_stop_57 : decode cX3_stop 57 = .ok (.dup, 1) := by decide +kernel
theorem dX3_stop_58 : decode cX3_stop 58 = .ok (.getfield 54, 3) := by decide +kernel
theorem dX3_stop_61 : decode cX3_stop 61 = .ok (.iconst 1, 1) := by decide +kernel
theorem dX3_stop_62 : decode cX3_stop 62 = .ok (.iadd, 1) := by decide +kernel
theorem dX3_stop_63 : decode cX3_stop 63 = .ok (.putfield 54, 3) := by decide +kernel
theorem dX3_stop_66 : decode cX3_stop 66 = .ok (.aload_n 0, 1) := by decide +kernel
theorem dX3_stop_67 : decode cX3_stop 67 = .ok (.getfield 7, 3) := by decide +kernel
theorem dX3_stop_70 : decode cX3_stop 70 = .ok (.aload_n 0, 1) := by decide +kernel
theorem dX3_stop_71 : decode cX3_stop 71 = .ok (.getfield 54, 3) := by decide +kernel
theorem dX3_stop_74 : decode cX3_stop 74 = .ok (.lload_n 1, 1) := by decide +kernel
theorem dX3_stop_75 : decode cX3_stop 75 = .ok (.lastore, 1) := by decide +kernel
theorem dX3_stop_76 : decode cX3_stop 76 = .ok (.aload_n 0, 1) := by decide +kernel
theorem dX3_stop_77 : decode cX3_stop 77 = .ok (.getfield 13, 3) := by decide +kernel
theorem dX3_stop_80 : decode cX3_stop 80 = .ok (.aload_n 0, 1) := by decide +kernel
theorem dX3_stop_81 : decode cX3_stop 81 = .ok (.getfield 54, 3) := by decide +kernel
theorem dX3_stop_84 : decode cX3_stop 84 = .ok (.lload_n 3, 1) := by decide +kernel
theorem dX3_stop_85 : decode cX3_stop 85 = .ok (.lastore, 1) := by decide +kernel
theorem dX3_stop_86 : decode cX3_stop 86 = .ok (.aload_n 0, 1) := by decide +kernel
theorem dX3_stop_87 : decode cX3_stop 87 = .ok (.getfield 16, 3) := by decide +kernel
theorem dX3_stop_90 : decode cX3_stop 90 = .ok (.aload_n 0, 1) := by decide +kernel
theorem dX3_stop_91 : decode cX3_stop 91 = .ok (.getfield 54, 3) := by decide +kernel
theorem dX3_stop_94 : decode cX3_stop 94 = .ok (.lload 5, 2) := by decide +kernel
theorem dX3_stop_96 : decode cX3_stop 96 = .ok (.lastore, 1) := by decide +kernel
theorem dX3_stop_97 : decode cX3_stop 97 = .ok (.aload_n 0, 1) := by decide +kernel
theorem dX3_stop_98 : decode cX3_stop 98 = .ok (.iconst 0, 1) := by decide +kernel
theorem dX3_stop_99 : decode cX3_stop 99 = .ok (.putfield 61, 3) := by decide +kernel
theorem dX3_stop_102 : decode cX3_stop 102 = .ok (.aload_n 0, 1) := by decide +kernel
theorem dX3_stop_103 : decode cX3_stop 103 = .ok (.iconst 0, 1) := by decide +kernel
theorem dX3_stop_104 : decode cX3_stop 104 = .ok (.putfield 65, 3) := by decide +kernel
theorem dX3_stop_107 : decode cX3_stop 107 = .ok (.aload_n 0, 1) := by decide +kernel
theorem dX3_stop_108 : decode cX3_stop 108 = .ok (.getfield 54, 3) := by decide +kernel
theorem dX3_stop_111 : decode cX3_stop 111 = .ok (.ireturn, 1) := by decide +kernel
theorem dX3_way_0 : decode cX3_way 0 = .ok (.aload_n 0, 1) := by decide +kernel
theorem dX3_way_1 : decode cX3_way 1 = .ok (.iconst 0, 1) := by decide +kernel
theorem dX3_way_2 : decode cX3_way 2 = .ok (.putfield 51, 3) := by decide +kernel
theorem dX3_way_5 : decode cX3_way 5 = .ok (.aload_n 0, 1) := by decide +kernel
theorem dX3_way_6 : decode cX3_way 6 = .ok (.iload_n 1, 1) := by decide +kernel
theorem dX3_way_7 : decode cX3_way 7 = .ok (.invokevirtual 68, 3) := by decide +kernel
theorem dX3_way_10 : decode cX3_way 10 = .ok (.ifCond .eq 30, 3) := by decide +kernel
theorem dX3_way_13 : decode cX3_way 13 = .ok (.aload_n 0, 1) := by decide +kernel
theorem dX3_way_14 : decode cX3_way 14 = .ok (.iload_n 2, 1) := by decide +kernel
theorem dX3_way_15 : decode cX3_way 15 = .ok (.invokevirtual 68, 3) := by decide +kernel
theorem dX3_way_18 : decode cX3_way 18 = .ok (.ifCond .eq 22, 3) := by decide +kernel
theorem dX3_way_21 : decode cX3_way 21 = .ok (.iload_n 1, 1) := by decide +kernel
theorem dX3_way_22 : decode cX3_way 22 = .ok (.iload_n 2, 1) := by decide +kernel
theorem dX3_way_23 : decode cX3_way 23 = .ok (.if_icmp .eq 17, 3) := by decide +kernel
theorem dX3_way_26 : decode cX3_way 26 = .ok (.lload_n 3, 1) := by decide +kernel
theorem dX3_way_27 : decode cX3_way 27 = .ok (.lconst 0, 1) := by decide +kernel
theorem dX3_way_28 : decode cX3_way 28 = .ok (.lcmp, 1) := by decide +kernel
theorem dX3_way_29 : decode cX3_way 29 = .ok (.ifCond .lt 11, 3) := by decide +kernel
theorem dX3_way_32 : decode cX3_way 32 = .ok (.lload_n 3, 1) := by decide +kernel
theorem dX3_way_33 : decode cX3_way 33 = .ok (.ldc2_w 57, 3) := by decide +kernel
theorem dX3_way_36 : decode cX3_way 36 = .ok (.lcmp, 1) := by decide +kernel
theorem dX3_way_37 : decode cX3_way 37 = .ok (.ifCond .le 4, 3) := by decide +kernel
theorem dX3_way_40 : decode cX3_way 40 = .ok (.return_, 1) := by decide +kernel
theorem dX3_way_41 : decode cX3_way 41 = .ok (.aload_n 0, 1) := by decide +kernel
theorem dX3_way_42 : decode cX3_way 42 = .ok (.getfield 27, 3) := by decide +kernel
theorem dX3_way_45 : decode cX3_way 45 = .ok (.bipush 21, 2) := by decide +kernel
theorem dX3_way_47 : decode cX3_way 47 = .ok (.iload_n 1, 1) := by decide +kernel
theorem dX3_way_48 : decode cX3_way 48 = .ok (.imul, 1) := by decide +kernel
theorem dX3_way_49 : decode cX3_way 49 = .ok (.iload_n 2, 1) := by decide +kernel
theorem dX3_way_50 : decode cX3_way 50 = .ok (.iadd, 1) := by decide +kernel
theorem dX3_way_51 : decode cX3_way 51 = .ok (.lload_n 3, 1) := by decide +kernel
theorem dX3_way_52 : decode cX3_way 52 = .ok (.lastore, 1) := by decide +kernel
theorem dX3_way_53 : decode cX3_way 53 = .ok (.aload_n 0, 1) := by decide +kernel
theorem dX3_way_54 : decode cX3_way 54 = .ok (.iconst 0, 1) := by decide +kernel
theorem dX3_way_55 : decode cX3_way 55 = .ok (.putfield 65, 3) := by decide +kernel
theorem dX3_way_58 : decode cX3_way 58 = .ok (.return_, 1) := by decide +kernel
theorem dX3_allLoads_0 : decode cX3_allLoads 0 = .ok (.iconst 0, 1) := by decide +kernel
theorem dX3_allLoads_1 : decode cX3_allLoads 1 = .ok (.istore_n 1, 1) := by decide +kernel
theorem dX3_allLoads_2 : decode cX3_allLoads 2 = .ok (.iconst 1, 1) := by decide +kernel
theorem dX3_allLoads_3 : decode cX3_allLoads 3 = .ok (.istore_n 2, 1) := by decide +kernel
theorem dX3_allLoads_4 : decode cX3_allLoads 4 = .ok (.iload_n 2, 1) := by decide +kernel
theorem dX3_allLoads_5 : decode cX3_allLoads 5 = .ok (.bipush 21, 2) := by decide +kernel
theorem dX3_allLoads_7 : decode cX3_allLoads 7 = .ok (.if_icmp .ge 18, 3) := by decide +kernel
theorem dX3_allLoads_10 : decode cX3_allLoads 10 = .ok (.iload_n 1, 1) := by decide +kernel
theorem dX3_allLoads_11 : decode cX3_allLoads 11 = .ok (.aload_n 0, 1) := by decide +kernel
theorem dX3_allLoads_12 : decode cX3_allLoads 12 = .ok (.getfield 19, 3) := by decide +kernel
theorem dX3_allLoads_15 : decode cX3_allLoads 15 = .ok (.iload_n 2, 1) := by decide +kernel
theorem dX3_allLoads_16 : decode cX3_allLoads 16 = .ok (.iaload, 1) := by decide +kernel
theorem dX3_allLoads_17 : decode cX3_allLoads 17 = .ok (.iadd, 1) := by decide +kernel
theorem dX3_allLoads_18 : decode cX3_allLoads 18 = .ok (.istore_n 1, 1) := by decide +kernel
theorem dX3_allLoads_19 : decode cX3_allLoads 19 = .ok (.iinc 2 1, 3) := by decide +kernel
theorem dX3_allLoads_22 : decode cX3_allLoads 22 = .ok (.goto (-18), 3) := by decide +kernel
theorem dX3_allLoads_25 : decode cX3_allLoads 25 = .ok (.iload_n 1, 1) := by decide +kernel
theorem dX3_allLoads_26 : decode cX3_allLoads 26 = .ok (.ireturn, 1) := by decide +kernel
theorem dX3_load_0 : decode cX3_load 0 = .ok (.aload_n 0, 1) := by decide +kernel
theorem dX3_load_1 : decode cX3_load 1 = .ok (.iconst 0, 1) := by decide +kernel
theorem dX3_load_2 : decode cX3_load 2 = .ok (.putfield 51, 3) := by decide +kernel
theorem dX3_load_5 : decode cX3_load 5 = .ok (.aload_n 0, 1) := by decide +kernel
theorem dX3_load_6 : decode cX3_load 6 = .ok (.iload_n 1, 1) := by decide +kernel
theorem dX3_load_7 : decode cX3_load 7 = .ok (.invokevirtual 72, 3) := by decide +kernel
theorem dX3_load_10 : decode cX3_load 10 = .ok (.ifCond .ne 6, 3) := by decide +kernel
theorem dX3_load_13 : decode cX3_load 13 = .ok (.bipush (-11), 2) := by decide +kernel
theorem dX3_load_15 : decode cX3_load 15 = .ok (.ireturn, 1) := by decide +kernel
theorem dX3_load_16 : decode cX3_load 16 = .ok (.iload_n 2, 1) := by decide +kernel
theorem dX3_load_17 : decode cX3_load 17 = .ok (.ifCond .lt 10, 3) := by decide +kernel
theorem dX3_load_20 : decode cX3_load 20 = .ok (.iload_n 2, 1) := by decide +kernel
theorem dX3_load_21 : decode cX3_load 21 = .ok (.sipush 1000, 3) := by decide +kernel
theorem dX3_load_24 : decode cX3_load 24 = .ok (.if_icmp .le 6, 3) := by decide +kernel
theorem dX3_load_27 : decode cX3_load 27 = .ok (.bipush (-12), 2) := by decide +kernel
theorem dX3_load_29 : decode cX3_load 29 = .ok (.ireturn, 1) := by decide +kernel
theorem dX3_load_30 : decode cX3_load 30 = .ok (.aload_n 0, 1) := by decide +kernel
theorem dX3_load_31 : decode cX3_load 31 = .ok (.getfield 19, 3) := by decide +kernel
theorem dX3_load_34 : decode cX3_load 34 = .ok (.iload_n 1, 1) := by decide +kernel
theorem dX3_load_35 : decode cX3_load 35 = .ok (.iload_n 2, 1) := by decide +kernel
theorem dX3_load_36 : decode cX3_load 36 = .ok (.iastore, 1) := by decide +kernel
theorem dX3_load_37 : decode cX3_load 37 = .ok (.aload_n 0, 1) := by decide +kernel
theorem dX3_load_38 : decode cX3_load 38 = .ok (.invokevirtual 75, 3) := by decide +kernel
theorem dX3_load_41 : decode cX3_load 41 = .ok (.ireturn, 1) := by decide +kernel
theorem dX3_limit_0 : decode cX3_limit 0 = .ok (.aload_n 0, 1) := by decide +kernel
theorem dX3_limit_1 : decode cX3_limit 1 = .ok (.iconst 0, 1) := by decide +kernel
theorem dX3_limit_2 : decode cX3_limit 2 = .ok (.putfield 51, 3) := by decide +kernel
theorem dX3_limit_5 : decode cX3_limit 5 = .ok (.iload_n 1, 1) := by decide +kernel
theorem dX3_limit_6 : decode cX3_limit 6 = .ok (.iconst (-1), 1) := by decide +kernel
theorem dX3_limit_7 : decode cX3_limit 7 = .ok (.if_icmp .ge 6, 3) := by decide +kernel
theorem dX3_limit_10 : decode cX3_limit 10 = .ok (.bipush (-12), 2) := by decide +kernel
theorem dX3_limit_12 : decode cX3_limit 12 = .ok (.ireturn, 1) := by decide +kernel
theorem dX3_limit_13 : decode cX3_limit 13 = .ok (.aload_n 0, 1) := by decide +kernel
theorem dX3_limit_14 : decode cX3_limit 14 = .ok (.iload_n 1, 1) := by decide +kernel
theorem dX3_limit_15 : decode cX3_limit 15 = .ok (.putfield 23, 3) := by decide +kernel
theorem dX3_limit_18 : decode cX3_limit 18 = .ok (.iload_n 1, 1) := by decide +kernel
theorem dX3_limit_19 : decode cX3_limit 19 = .ok (.iconst (-1), 1) := by decide +kernel
theorem dX3_limit_20 : decode cX3_limit 20 = .ok (.if_icmp .ne 7, 3) := by decide +kernel
theorem dX3_limit_23 : decode cX3_limit 23 = .ok (.iconst 0, 1) := by decide +kernel
theorem dX3_limit_24 : decode cX3_limit 24 = .ok (.goto 4, 3) := by decide +kernel
theorem dX3_limit_27 : decode cX3_limit 27 = .ok (.iconst 1, 1) := by decide +kernel
theorem dX3_limit_28 : decode cX3_limit 28 = .ok (.ireturn, 1) := by decide +kernel
theorem dX3_measure_0 : decode cX3_measure 0 = .ok (.lconst 0, 1) := by decide +kernel
theorem dX3_measure_1 : decode cX3_measure 1 = .ok (.lstore_n 1, 1) := by decide +kernel
theorem dX3_measure_2 : decode cX3_measure 2 = .ok (.lconst 0, 1) := by decide +kernel
theorem dX3_measure_3 : decode cX3_measure 3 = .ok (.lstore_n 3, 1) := by decide +kernel
theorem dX3_measure_4 : decode cX3_measure 4 = .ok (.iconst 0, 1) := by decide +kernel
theorem dX3_measure_5 : decode cX3_measure 5 = .ok (.istore 5, 2) := by decide +kernel
theorem dX3_measure_7 : decode cX3_measure 7 = .ok (.iconst 0, 1) := by decide +kernel
theorem dX3_measure_8 : decode cX3_measure 8 = .ok (.istore 6, 2) := by decide +kernel
theorem dX3_measure_10 : decode cX3_measure 10 = .ok (.iload 6, 2) := by decide +kernel
theorem dX3_measure_12 : decode cX3_measure 12 = .ok (.aload_n 0, 1) := by decide +kernel
theorem dX3_measure_13 : decode cX3_measure 13 = .ok (.getfield 79, 3) := by decide +kernel
theorem dX3_measure_16 : decode cX3_measure 16 = .ok (.if_icmp .ge 118, 3) := by decide +kernel
theorem dX3_measure_19 : decode cX3_measure 19 = .ok (.aload_n 0, 1) := by decide +kernel
theorem dX3_measure_20 : decode cX3_measure 20 = .ok (.getfield 46, 3) := by decide +kernel
theorem dX3_measure_23 : decode cX3_measure 23 = .ok (.iload 6, 2) := by decide +kernel
theorem dX3_measure_25 : decode cX3_measure 25 = .ok (.iaload, 1) := by decide +kernel
theorem dX3_measure_26 : decode cX3_measure 26 = .ok (.istore 7, 2) := by decide +kernel
theorem dX3_measure_28 : decode cX3_measure 28 = .ok (.lload_n 1, 1) := by decide +kernel
theorem dX3_measure_29 : decode cX3_measure 29 = .ok (.aload_n 0, 1) := by decide +kernel
theorem dX3_measure_30 : decode cX3_measure 30 = .ok (.getfield 27, 3) := by decide +kernel
theorem dX3_measure_33 : decode cX3_measure 33 = .ok (.bipush 21, 2) := by decide +kernel
theorem dX3_measure_35 : decode cX3_measure 35 = .ok (.iload 5, 2) := by decide +kernel
theorem dX3_measure_37 : decode cX3_measure 37 = .ok (.imul, 1) := by decide +kernel
theorem dX3_measure_38 : decode cX3_measure 38 = .ok (.iload 7, 2) := by decide +kernel
theorem dX3_measure_40 : decode cX3_measure 40 = .ok (.iadd, 1) := by decide +kernel
theorem dX3_measure_41 : decode cX3_measure 41 = .ok (.laload, 1) := by decide +kernel
theorem dX3_measure_42 : decode cX3_measure 42 = .ok (.ladd, 1) := by decide +kernel
theorem dX3_measure_43 : decode cX3_measure 43 = .ok (.lstore 8, 2) := by decide +kernel
theorem dX3_measure_45 : decode cX3_measure 45 = .ok (.lload 8, 2) := by decide +kernel
theorem dX3_measure_47 : decode cX3_measure 47 = .ok (.aload_n 0, 1) := by decide +kernel
theorem dX3_measure_48 : decode cX3_measure 48 = .ok (.getfield 16, 3) := by decide +kernel
theorem dX3_measure_51 : decode cX3_measure 51 = .ok (.iload 7, 2) := by decide +kernel
theorem dX3_measure_53 : decode cX3_measure 53 = .ok (.laload, 1) := by decide +kernel
theorem dX3_measure_54 : decode cX3_measure 54 = .ok (.lcmp, 1) := by decide +kernel
theorem dX3_measure_55 : decode cX3_measure 55 = .ok (.ifCond .le 9, 3) := by decide +kernel
theorem dX3_measure_58 : decode cX3_measure 58 = .ok (.lload_n 3, 1) := by decide +kernel
theorem dX3_measure_59 : decode cX3_measure 59 = .ok (.lconst 1, 1) := by decide +kernel
theorem dX3_measure_60 : decode cX3_measure 60 = .ok (.ladd, 1) := by decide +kernel
theorem dX3_measure_61 : decode cX3_measure 61 = .ok (.goto 4, 3) := by decide +kernel
theorem dX3_measure_64 : decode cX3_measure 64 = .ok (.lload_n 3, 1) := by decide +kernel
theorem dX3_measure_65 : decode cX3_measure 65 = .ok (.lstore_n 3, 1) := by decide +kernel
theorem dX3_measure_66 : decode cX3_measure 66 = .ok (.aload_n 0, 1) := by decide +kernel
theorem dX3_measure_67 : decode cX3_measure 67 = .ok (.getfield 30, 3) := by decide +kernel
theorem dX3_measure_70 : decode cX3_measure 70 = .ok (.bipush 21, 2) := by decide +kernel
theorem dX3_measure_72 : decode cX3_measure 72 = .ok (.iload 5, 2) := by decide +kernel
theorem dX3_measure_74 : decode cX3_measure 74 = .ok (.imul, 1) := by decide +kernel
theorem dX3_measure_75 : decode cX3_measure 75 = .ok (.iload 7, 2) := by decide +kernel
theorem dX3_measure_77 : decode cX3_measure 77 = .ok (.iadd, 1) := by decide +kernel
theorem dX3_measure_78 : decode cX3_measure 78 = .ok (.baload, 1) := by decide +kernel
theorem dX3_measure_79 : decode cX3_measure 79 = .ok (.ifCond .eq 9, 3) := by decide +kernel
theorem dX3_measure_82 : decode cX3_measure 82 = .ok (.lload_n 3, 1) := by decide +kernel
theorem dX3_measure_83 : decode cX3_measure 83 = .ok (.lconst 1, 1) := by decide +kernel
theorem dX3_measure_84 : decode cX3_measure 84 = .ok (.ladd, 1) := by decide +kernel
theorem dX3_measure_85 : decode cX3_measure 85 = .ok (.goto 4, 3) := by decide +kernel
theorem dX3_measure_88 : decode cX3_measure 88 = .ok (.lload_n 3, 1) := by decide +kernel
theorem dX3_measure_89 : decode cX3_measure 89 = .ok (.lstore_n 3, 1) := by decide +kernel
theorem dX3_measure_90 : decode cX3_measure 90 = .ok (.lload 8, 2) := by decide +kernel
theorem dX3_measure_92 : decode cX3_measure 92 = .ok (.aload_n 0, 1) := by decide +kernel
theorem dX3_measure_93 : decode cX3_measure 93 = .ok (.getfield 13, 3) := by decide +kernel
theorem dX3_measure_96 : decode cX3_measure 96 = .ok (.iload 7, 2) := by decide +kernel
theorem dX3_measure_98 : decode cX3_measure 98 = .ok (.laload, 1) := by decide +kernel
theorem dX3_measure_99 : decode cX3_measure 99 = .ok (.lcmp, 1) := by decide +kernel
theorem dX3_measure_100 : decode cX3_measure 100 = .ok (.ifCond .ge 13, 3) := by decide +kernel
theorem dX3_measure_103 : decode cX3_measure 103 = .ok (.aload_n 0, 1) := by decide +kernel
theorem dX3_measure_104 : decode cX3_measure 104 = .ok (.getfield 13, 3) := by decide +kernel
theorem dX3_measure_107 : decode cX3_measure 107 = .ok (.iload 7, 2) := by decide +kernel
theorem dX3_measure_109 : decode cX3_measure 109 = .ok (.laload, 1) := by decide +kernel
theorem dX3_measure_110 : decode cX3_measure 110 = .ok (.goto 5, 3) := by decide +kernel
theorem dX3_measure_113 : decode cX3_measure 113 = .ok (.lload 8, 2) := by decide +kernel
theorem dX3_measure_115 : decode cX3_measure 115 = .ok (.aload_n 0, 1) := by decide +kernel
theorem dX3_measure_116 : decode cX3_measure 116 = .ok (.getfield 7, 3) := by decide +kernel
theorem dX3_measure_119 : decode cX3_measure 119 = .ok (.iload 7, 2) := by decide +kernel
theorem dX3_measure_121 : decode cX3_measure 121 = .ok (.laload, 1) := by decide +kernel
theorem dX3_measure_122 : decode cX3_measure 122 = .ok (.ladd, 1) := by decide +kernel
theorem dX3_measure_123 : decode cX3_measure 123 = .ok (.lstore_n 1, 1) := by decide +kernel
theorem dX3_measure_124 : decode cX3_measure 124 = .ok (.iload 7, 2) := by decide +kernel
theorem dX3_measure_126 : decode cX3_measure 126 = .ok (.istore 5, 2) := by decide +kernel
theorem dX3_measure_128 : decode cX3_measure 128 = .ok (.iinc 6 1, 3) := by decide +kernel
theorem dX3_measure_131 : decode cX3_measure 131 = .ok (.goto (-121), 3) := by decide +kernel
theorem dX3_measure_134 : decode cX3_measure 134 = .ok (.aload_n 0, 1) := by decide +kernel
theorem dX3_measure_135 : decode cX3_measure 135 = .ok (.getfield 79, 3) := by decide +kernel
theorem dX3_measure_138 : decode cX3_measure 138 = .ok (.ifCond .ne 5, 3) := by decide +kernel
theorem dX3_measure_141 : decode cX3_measure 141 = .ok (.lconst 0, 1) := by decide +kernel
theorem dX3_measure_142 : decode cX3_measure 142 = .ok (.lreturn, 1) := by decide +kernel
theorem dX3_measure_143 : decode cX3_measure 143 = .ok (.aload_n 0, 1) := by decide +kernel
theorem dX3_measure_144 : decode cX3_measure 144 = .ok (.getfield 30, 3) := by decide +kernel
theorem dX3_measure_147 : decode cX3_measure 147 = .ok (.bipush 21, 2) := by decide +kernel
theorem dX3_measure_149 : decode cX3_measure 149 = .ok (.iload 5, 2) := by decide +kernel
theorem dX3_measure_151 : decode cX3_measure 151 = .ok (.imul, 1) := by decide +kernel
theorem dX3_measure_152 : decode cX3_measure 152 = .ok (.baload, 1) := by decide +kernel
theorem dX3_measure_153 : decode cX3_measure 153 = .ok (.ifCond .eq 9, 3) := by decide +kernel
theorem dX3_measure_156 : decode cX3_measure 156 = .ok (.lload_n 3, 1) := by decide +kernel
theorem dX3_measure_157 : decode cX3_measure 157 = .ok (.lconst 1, 1) := by decide +kernel
theorem dX3_measure_158 : decode cX3_measure 158 = .ok (.ladd, 1) := by decide +kernel
theorem dX3_measure_159 : decode cX3_measure 159 = .ok (.goto 4, 3) := by decide +kernel
theorem dX3_measure_162 : decode cX3_measure 162 = .ok (.lload_n 3, 1) := by decide +kernel
theorem dX3_measure_163 : decode cX3_measure 163 = .ok (.lstore_n 3, 1) := by decide +kernel
theorem dX3_measure_164 : decode cX3_measure 164 = .ok (.lload_n 3, 1) := by decide +kernel
theorem dX3_measure_165 : decode cX3_measure 165 = .ok (.ldc2_w 82, 3) := by decide +kernel
theorem dX3_measure_168 : decode cX3_measure 168 = .ok (.lmul, 1) := by decide +kernel
theorem dX3_measure_169 : decode cX3_measure 169 = .ok (.lload_n 1, 1) := by decide +kernel
theorem dX3_measure_170 : decode cX3_measure 170 = .ok (.ladd, 1) := by decide +kernel
theorem dX3_measure_171 : decode cX3_measure 171 = .ok (.aload_n 0, 1) := by decide +kernel
theorem dX3_measure_172 : decode cX3_measure 172 = .ok (.getfield 27, 3) := by decide +kernel
theorem dX3_measure_175 : decode cX3_measure 175 = .ok (.bipush 21, 2) := by decide +kernel
theorem dX3_measure_177 : decode cX3_measure 177 = .ok (.iload 5, 2) := by decide +kernel
theorem dX3_measure_179 : decode cX3_measure 179 = .ok (.imul, 1) := by decide +kernel
theorem dX3_measure_180 : decode cX3_measure 180 = .ok (.laload, 1) := by decide +kernel
theorem dX3_measure_181 : decode cX3_measure 181 = .ok (.ladd, 1) := by decide +kernel
theorem dX3_measure_182 : decode cX3_measure 182 = .ok (.lreturn, 1) := by decide +kernel
theorem dX3_isFrozen_0 : decode cX3_isFrozen 0 = .ok (.iconst 0, 1) := by decide +kernel
theorem dX3_isFrozen_1 : decode cX3_isFrozen 1 = .ok (.istore_n 2, 1) := by decide +kernel
theorem dX3_isFrozen_2 : decode cX3_isFrozen 2 = .ok (.iconst 0, 1) := by decide +kernel
theorem dX3_isFrozen_3 : decode cX3_isFrozen 3 = .ok (.istore_n 3, 1) := by decide +kernel
theorem dX3_isFrozen_4 : decode cX3_isFrozen 4 = .ok (.iload_n 3, 1) := by decide +kernel
theorem dX3_isFrozen_5 : decode cX3_isFrozen 5 = .ok (.aload_n 0, 1) := by decide +kernel
theorem dX3_isFrozen_6 : decode cX3_isFrozen 6 = .ok (.getfield 84, 3) := by decide +kernel
