theorem dX3_late_114 : decode cX3_late 114 = .ok (.iload 7, 2) := by decide +kernel
theorem dX3_late_116 : decode cX3_late 116 = .ok (.laload, 1) := by decide +kernel
theorem dX3_late_117 : decode cX3_late 117 = .ok (.ladd, 1) := by decide +kernel
theorem dX3_late_118 : decode cX3_late 118 = .ok (.lstore_n 2, 1) := by decide +kernel
theorem dX3_late_119 : decode cX3_late 119 = .ok (.iload 7, 2) := by decide +kernel
theorem dX3_late_121 : decode cX3_late 121 = .ok (.istore 4, 2) := by decide +kernel
theorem dX3_late_123 : decode cX3_late 123 = .ok (.iinc 6 1, 3) := by decide +kernel
theorem dX3_late_126 : decode cX3_late 126 = .ok (.goto (-101), 3) := by decide +kernel
theorem dX3_late_129 : decode cX3_late 129 = .ok (.iconst 0, 1) := by decide +kernel
theorem dX3_late_130 : decode cX3_late 130 = .ok (.ireturn, 1) := by decide +kernel
theorem dX3_freeze_0 : decode cX3_freeze 0 = .ok (.aload_n 0, 1) := by decide +kernel
theorem dX3_freeze_1 : decode cX3_freeze 1 = .ok (.iconst 0, 1) := by decide +kernel
theorem dX3_freeze_2 : decode cX3_freeze 2 = .ok (.putfield 51, 3) := by decide +kernel
theorem dX3_freeze_5 : decode cX3_freeze 5 = .ok (.iload_n 1, 1) := by decide +kernel
theorem dX3_freeze_6 : decode cX3_freeze 6 = .ok (.ifCond .lt 18, 3) := by decide +kernel
theorem dX3_freeze_9 : decode cX3_freeze 9 = .ok (.aload_n 0, 1) := by decide +kernel
theorem dX3_freeze_10 : decode cX3_freeze 10 = .ok (.getfield 61, 3) := by decide +kernel
theorem dX3_freeze_13 : decode cX3_freeze 13 = .ok (.ifCond .eq 14, 3) := by decide +kernel
theorem dX3_freeze_16 : decode cX3_freeze 16 = .ok (.iload_n 1, 1) := by decide +kernel
theorem dX3_freeze_17 : decode cX3_freeze 17 = .ok (.aload_n 0, 1) := by decide +kernel
theorem dX3_freeze_18 : decode cX3_freeze 18 = .ok (.getfield 122, 3) := by decide +kernel
theorem dX3_freeze_21 : decode cX3_freeze 21 = .ok (.if_icmp .le 6, 3) := by decide +kernel
theorem dX3_freeze_24 : decode cX3_freeze 24 = .ok (.bipush (-11), 2) := by decide +kernel
theorem dX3_freeze_26 : decode cX3_freeze 26 = .ok (.ireturn, 1) := by decide +kernel
theorem dX3_freeze_27 : decode cX3_freeze 27 = .ok (.aload_n 0, 1) := by decide +kernel
theorem dX3_freeze_28 : decode cX3_freeze 28 = .ok (.getfield 61, 3) := by decide +kernel
theorem dX3_freeze_31 : decode cX3_freeze 31 = .ok (.ifCond .ne 6, 3) := by decide +kernel
theorem dX3_freeze_34 : decode cX3_freeze 34 = .ok (.bipush (-13), 2) := by decide +kernel
theorem dX3_freeze_36 : decode cX3_freeze 36 = .ok (.ireturn, 1) := by decide +kernel
theorem dX3_freeze_37 : decode cX3_freeze 37 = .ok (.aload_n 0, 1) := by decide +kernel
theorem dX3_freeze_38 : decode cX3_freeze 38 = .ok (.iload_n 1, 1) := by decide +kernel
theorem dX3_freeze_39 : decode cX3_freeze 39 = .ok (.putfield 84, 3) := by decide +kernel
theorem dX3_freeze_42 : decode cX3_freeze 42 = .ok (.iconst 0, 1) := by decide +kernel
theorem dX3_freeze_43 : decode cX3_freeze 43 = .ok (.istore_n 2, 1) := by decide +kernel
theorem dX3_freeze_44 : decode cX3_freeze 44 = .ok (.iload_n 2, 1) := by decide +kernel
theorem dX3_freeze_45 : decode cX3_freeze 45 = .ok (.iload_n 1, 1) := by decide +kernel
theorem dX3_freeze_46 : decode cX3_freeze 46 = .ok (.if_icmp .ge 21, 3) := by decide +kernel
theorem dX3_freeze_49 : decode cX3_freeze 49 = .ok (.aload_n 0, 1) := by decide +kernel
theorem dX3_freeze_50 : decode cX3_freeze 50 = .ok (.getfield 37, 3) := by decide +kernel
theorem dX3_freeze_53 : decode cX3_freeze 53 = .ok (.iload_n 2, 1) := by decide +kernel
theorem dX3_freeze_54 : decode cX3_freeze 54 = .ok (.aload_n 0, 1) := by decide +kernel
theorem dX3_freeze_55 : decode cX3_freeze 55 = .ok (.getfield 34, 3) := by decide +kernel
theorem dX3_freeze_58 : decode cX3_freeze 58 = .ok (.iload_n 2, 1) := by decide +kernel
theorem dX3_freeze_59 : decode cX3_freeze 59 = .ok (.iaload, 1) := by decide +kernel
theorem dX3_freeze_60 : decode cX3_freeze 60 = .ok (.iastore, 1) := by decide +kernel
theorem dX3_freeze_61 : decode cX3_freeze 61 = .ok (.iinc 2 1, 3) := by decide +kernel
theorem dX3_freeze_64 : decode cX3_freeze 64 = .ok (.goto (-20), 3) := by decide +kernel
theorem dX3_freeze_67 : decode cX3_freeze 67 = .ok (.iload_n 1, 1) := by decide +kernel
theorem dX3_freeze_68 : decode cX3_freeze 68 = .ok (.ireturn, 1) := by decide +kernel
theorem dX3_add_0 : decode cX3_add 0 = .ok (.aload_n 0, 1) := by decide +kernel
theorem dX3_add_1 : decode cX3_add 1 = .ok (.iconst 0, 1) := by decide +kernel
theorem dX3_add_2 : decode cX3_add 2 = .ok (.putfield 51, 3) := by decide +kernel
theorem dX3_add_5 : decode cX3_add 5 = .ok (.aload_n 0, 1) := by decide +kernel
theorem dX3_add_6 : decode cX3_add 6 = .ok (.iload_n 1, 1) := by decide +kernel
theorem dX3_add_7 : decode cX3_add 7 = .ok (.invokevirtual 72, 3) := by decide +kernel
theorem dX3_add_10 : decode cX3_add 10 = .ok (.ifCond .ne 6, 3) := by decide +kernel
theorem dX3_add_13 : decode cX3_add 13 = .ok (.bipush (-11), 2) := by decide +kernel
theorem dX3_add_15 : decode cX3_add 15 = .ok (.ireturn, 1) := by decide +kernel
theorem dX3_add_16 : decode cX3_add 16 = .ok (.aload_n 0, 1) := by decide +kernel
theorem dX3_add_17 : decode cX3_add 17 = .ok (.getfield 61, 3) := by decide +kernel
theorem dX3_add_20 : decode cX3_add 20 = .ok (.ifCond .ne 6, 3) := by decide +kernel
theorem dX3_add_23 : decode cX3_add 23 = .ok (.bipush (-13), 2) := by decide +kernel
theorem dX3_add_25 : decode cX3_add 25 = .ok (.ireturn, 1) := by decide +kernel
theorem dX3_add_26 : decode cX3_add 26 = .ok (.iconst 0, 1) := by decide +kernel
theorem dX3_add_27 : decode cX3_add 27 = .ok (.istore_n 2, 1) := by decide +kernel
theorem dX3_add_28 : decode cX3_add 28 = .ok (.iconst 0, 1) := by decide +kernel
theorem dX3_add_29 : decode cX3_add 29 = .ok (.istore_n 3, 1) := by decide +kernel
theorem dX3_add_30 : decode cX3_add 30 = .ok (.iload_n 3, 1) := by decide +kernel
theorem dX3_add_31 : decode cX3_add 31 = .ok (.aload_n 0, 1) := by decide +kernel
theorem dX3_add_32 : decode cX3_add 32 = .ok (.getfield 122, 3) := by decide +kernel
theorem dX3_add_35 : decode cX3_add 35 = .ok (.if_icmp .ge 25, 3) := by decide +kernel
theorem dX3_add_38 : decode cX3_add 38 = .ok (.aload_n 0, 1) := by decide +kernel
theorem dX3_add_39 : decode cX3_add 39 = .ok (.getfield 34, 3) := by decide +kernel
theorem dX3_add_42 : decode cX3_add 42 = .ok (.iload_n 3, 1) := by decide +kernel
theorem dX3_add_43 : decode cX3_add 43 = .ok (.iaload, 1) := by decide +kernel
theorem dX3_add_44 : decode cX3_add 44 = .ok (.iload_n 1, 1) := by decide +kernel
theorem dX3_add_45 : decode cX3_add 45 = .ok (.if_icmp .ne 7, 3) := by decide +kernel
theorem dX3_add_48 : decode cX3_add 48 = .ok (.iload_n 3, 1) := by decide +kernel
theorem dX3_add_49 : decode cX3_add 49 = .ok (.goto 4, 3) := by decide +kernel
theorem dX3_add_52 : decode cX3_add 52 = .ok (.iload_n 2, 1) := by decide +kernel
theorem dX3_add_53 : decode cX3_add 53 = .ok (.istore_n 2, 1) := by decide +kernel
theorem dX3_add_54 : decode cX3_add 54 = .ok (.iinc 3 1, 3) := by decide +kernel
theorem dX3_add_57 : decode cX3_add 57 = .ok (.goto (-27), 3) := by decide +kernel
theorem dX3_add_60 : decode cX3_add 60 = .ok (.iload_n 2, 1) := by decide +kernel
theorem dX3_add_61 : decode cX3_add 61 = .ok (.aload_n 0, 1) := by decide +kernel
theorem dX3_add_62 : decode cX3_add 62 = .ok (.getfield 84, 3) := by decide +kernel
theorem dX3_add_65 : decode cX3_add 65 = .ok (.if_icmp .ge 6, 3) := by decide +kernel
theorem dX3_add_68 : decode cX3_add 68 = .ok (.bipush (-13), 2) := by decide +kernel
theorem dX3_add_70 : decode cX3_add 70 = .ok (.ireturn, 1) := by decide +kernel
theorem dX3_add_71 : decode cX3_add 71 = .ok (.aload_n 0, 1) := by decide +kernel
theorem dX3_add_72 : decode cX3_add 72 = .ok (.invokevirtual 147, 3) := by decide +kernel
theorem dX3_add_75 : decode cX3_add 75 = .ok (.aload_n 0, 1) := by decide +kernel
theorem dX3_add_76 : decode cX3_add 76 = .ok (.iload_n 2, 1) := by decide +kernel
theorem dX3_add_77 : decode cX3_add 77 = .ok (.invokevirtual 111, 3) := by decide +kernel
theorem dX3_add_80 : decode cX3_add 80 = .ok (.aload_n 0, 1) := by decide +kernel
theorem dX3_add_81 : decode cX3_add 81 = .ok (.iload_n 1, 1) := by decide +kernel
theorem dX3_add_82 : decode cX3_add 82 = .ok (.invokevirtual 136, 3) := by decide +kernel
theorem dX3_add_85 : decode cX3_add 85 = .ok (.istore_n 3, 1) := by decide +kernel
theorem dX3_add_86 : decode cX3_add 86 = .ok (.aload_n 0, 1) := by decide +kernel
theorem dX3_add_87 : decode cX3_add 87 = .ok (.invokevirtual 144, 3) := by decide +kernel
theorem dX3_add_90 : decode cX3_add 90 = .ok (.aload_n 0, 1) := by decide +kernel
theorem dX3_add_91 : decode cX3_add 91 = .ok (.iconst 0, 1) := by decide +kernel
theorem dX3_add_92 : decode cX3_add 92 = .ok (.putfield 65, 3) := by decide +kernel
theorem dX3_add_95 : decode cX3_add 95 = .ok (.iload_n 3, 1) := by decide +kernel
theorem dX3_add_96 : decode cX3_add 96 = .ok (.ireturn, 1) := by decide +kernel
theorem dX3_arc_0 : decode cX3_arc 0 = .ok (.aload_n 0, 1) := by decide +kernel
theorem dX3_arc_1 : decode cX3_arc 1 = .ok (.iconst 0, 1) := by decide +kernel
theorem dX3_arc_2 : decode cX3_arc 2 = .ok (.putfield 51, 3) := by decide +kernel
theorem dX3_arc_5 : decode cX3_arc 5 = .ok (.aload_n 0, 1) := by decide +kernel
theorem dX3_arc_6 : decode cX3_arc 6 = .ok (.iload_n 1, 1) := by decide +kernel
theorem dX3_arc_7 : decode cX3_arc 7 = .ok (.invokevirtual 68, 3) := by decide +kernel
theorem dX3_arc_10 : decode cX3_arc 10 = .ok (.ifCond .eq 11, 3) := by decide +kernel
theorem dX3_arc_13 : decode cX3_arc 13 = .ok (.aload_n 0, 1) := by decide +kernel
theorem dX3_arc_14 : decode cX3_arc 14 = .ok (.iload_n 2, 1) := by decide +kernel
theorem dX3_arc_15 : decode cX3_arc 15 = .ok (.invokevirtual 68, 3) := by decide +kernel
theorem dX3_arc_18 : decode cX3_arc 18 = .ok (.ifCond .ne 6, 3) := by decide +kernel
theorem dX3_arc_21 : decode cX3_arc 21 = .ok (.bipush (-11), 2) := by decide +kernel
theorem dX3_arc_23 : decode cX3_arc 23 = .ok (.ireturn, 1) := by decide +kernel
theorem dX3_arc_24 : decode cX3_arc 24 = .ok (.iload_n 3, 1) := by decide +kernel
theorem dX3_arc_25 : decode cX3_arc 25 = .ok (.ifCond .lt 13, 3) := by decide +kernel
theorem dX3_arc_28 : decode cX3_arc 28 = .ok (.iload_n 3, 1) := by decide +kernel
theorem dX3_arc_29 : decode cX3_arc 29 = .ok (.iconst 1, 1) := by decide +kernel
theorem dX3_arc_30 : decode cX3_arc 30 = .ok (.if_icmp .gt 8, 3) := by decide +kernel
theorem dX3_arc_33 : decode cX3_arc 33 = .ok (.iload_n 1, 1) := by decide +kernel
theorem dX3_arc_34 : decode cX3_arc 34 = .ok (.iload_n 2, 1) := by decide +kernel
theorem dX3_arc_35 : decode cX3_arc 35 = .ok (.if_icmp .ne 6, 3) := by decide +kernel
theorem dX3_arc_38 : decode cX3_arc 38 = .ok (.bipush (-12), 2) := by decide +kernel
theorem dX3_arc_40 : decode cX3_arc 40 = .ok (.ireturn, 1) := by decide +kernel
theorem dX3_arc_41 : decode cX3_arc 41 = .ok (.aload_n 0, 1) := by decide +kernel
theorem dX3_arc_42 : decode cX3_arc 42 = .ok (.getfield 30, 3) := by decide +kernel
theorem dX3_arc_45 : decode cX3_arc 45 = .ok (.bipush 21, 2) := by decide +kernel
theorem dX3_arc_47 : decode cX3_arc 47 = .ok (.iload_n 1, 1) := by decide +kernel
theorem dX3_arc_48 : decode cX3_arc 48 = .ok (.imul, 1) := by decide +kernel
theorem dX3_arc_49 : decode cX3_arc 49 = .ok (.iload_n 2, 1) := by decide +kernel
theorem dX3_arc_50 : decode cX3_arc 50 = .ok (.iadd, 1) := by decide +kernel
theorem dX3_arc_51 : decode cX3_arc 51 = .ok (.iload_n 3, 1) := by decide +kernel
theorem dX3_arc_52 : decode cX3_arc 52 = .ok (.ifCond .ne 7, 3) := by decide +kernel
theorem dX3_arc_55 : decode cX3_arc 55 = .ok (.iconst 1, 1) := by decide +kernel
theorem dX3_arc_56 : decode cX3_arc 56 = .ok (.goto 4, 3) := by decide +kernel
theorem dX3_arc_59 : decode cX3_arc 59 = .ok (.iconst 0, 1) := by decide +kernel
theorem dX3_arc_60 : decode cX3_arc 60 = .ok (.bastore, 1) := by decide +kernel
theorem dX3_arc_61 : decode cX3_arc 61 = .ok (.aload_n 0, 1) := by decide +kernel
theorem dX3_arc_62 : decode cX3_arc 62 = .ok (.iconst 0, 1) := by decide +kernel
theorem dX3_arc_63 : decode cX3_arc 63 = .ok (.putfield 65, 3) := by decide +kernel
theorem dX3_arc_66 : decode cX3_arc 66 = .ok (.iconst 0, 1) := by decide +kernel
theorem dX3_arc_67 : decode cX3_arc 67 = .ok (.istore 4, 2) := by decide +kernel
theorem dX3_arc_69 : decode cX3_arc 69 = .ok (.iconst 0, 1) := by decide +kernel
theorem dX3_arc_70 : decode cX3_arc 70 = .ok (.istore 5, 2) := by decide +kernel
theorem dX3_arc_72 : decode cX3_arc 72 = .ok (.iload 5, 2) := by decide +kernel
theorem dX3_arc_74 : decode cX3_arc 74 = .ok (.sipush 441, 3) := by decide +kernel
theorem dX3_arc_77 : decode cX3_arc 77 = .ok (.if_icmp .ge 30, 3) := by decide +kernel
theorem dX3_arc_80 : decode cX3_arc 80 = .ok (.aload_n 0, 1) := by decide +kernel
theorem dX3_arc_81 : decode cX3_arc 81 = .ok (.getfield 30, 3) := by decide +kernel
theorem dX3_arc_84 : decode cX3_arc 84 = .ok (.iload 5, 2) := by decide +kernel
theorem dX3_arc_86 : decode cX3_arc 86 = .ok (.baload, 1) := by decide +kernel
theorem dX3_arc_87 : decode cX3_arc 87 = .ok (.ifCond .eq 10, 3) := by decide +kernel
theorem dX3_arc_90 : decode cX3_arc 90 = .ok (.iload 4, 2) := by decide +kernel
theorem dX3_arc_92 : decode cX3_arc 92 = .ok (.iconst 1, 1) := by decide +kernel
theorem dX3_arc_93 : decode cX3_arc 93 = .ok (.iadd, 1) := by decide +kernel
theorem dX3_arc_94 : decode cX3_arc 94 = .ok (.goto 5, 3) := by decide +kernel
theorem dX3_arc_97 : decode cX3_arc 97 = .ok (.iload 4, 2) := by decide +kernel
theorem dX3_arc_99 : decode cX3_arc 99 = .ok (.istore 4, 2) := by decide +kernel
theorem dX3_arc_101 : decode cX3_arc 101 = .ok (.iinc 5 1, 3) := by decide +kernel
theorem dX3_arc_104 : decode cX3_arc 104 = .ok (.goto (-32), 3) := by decide +kernel
theorem dX3_arc_107 : decode cX3_arc 107 = .ok (.iload 4, 2) := by decide +kernel
theorem dX3_arc_109 : decode cX3_arc 109 = .ok (.ireturn, 1) := by decide +kernel
theorem dX3_exchange_0 : decode cX3_exchange 0 = .ok (.aload_n 0, 1) := by decide +kernel
theorem dX3_exchange_1 : decode cX3_exchange 1 = .ok (.iconst 0, 1) := by decide +kernel
theorem dX3_exchange_2 : decode cX3_exchange 2 = .ok (.putfield 51, 3) := by decide +kernel
theorem dX3_exchange_5 : decode cX3_exchange 5 = .ok (.iload_n 1, 1) := by decide +kernel
theorem dX3_exchange_6 : decode cX3_exchange 6 = .ok (.ifCond .lt 7, 3) := by decide +kernel
theorem dX3_exchange_9 : decode cX3_exchange 9 = .ok (.iload_n 2, 1) := by decide +kernel
theorem dX3_exchange_10 : decode cX3_exchange 10 = .ok (.ifCond .ge 6, 3) := by decide +kernel
theorem dX3_exchange_13 : decode cX3_exchange 13 = .ok (.bipush (-11), 2) := by decide +kernel
theorem dX3_exchange_15 : decode cX3_exchange 15 = .ok (.ireturn, 1) := by decide +kernel
theorem dX3_exchange_16 : decode cX3_exchange 16 = .ok (.aload_n 0, 1) := by decide +kernel
theorem dX3_exchange_17 : decode cX3_exchange 17 = .ok (.getfield 61, 3) := by decide +kernel
theorem dX3_exchange_20 : decode cX3_exchange 20 = .ok (.ifCond .ne 6, 3) := by decide +kernel
theorem dX3_exchange_23 : decode cX3_exchange 23 = .ok (.bipush (-13), 2) := by decide +kernel
theorem dX3_exchange_25 : decode cX3_exchange 25 = .ok (.ireturn, 1) := by decide +kernel
theorem dX3_exchange_26 : decode cX3_exchange 26 = .ok (.iload_n 1, 1) := by decide +kernel
theorem dX3_exchange_27 : decode cX3_exchange 27 = .ok (.aload_n 0, 1) := by decide +kernel
theorem dX3_exchange_28 : decode cX3_exchange 28 = .ok (.getfield 122, 3) := by decide +kernel
theorem dX3_exchange_31 : decode cX3_exchange 31 = .ok (.if_icmp .ge 11, 3) := by decide +kernel
theorem dX3_exchange_34 : decode cX3_exchange 34 = .ok (.iload_n 2, 1) := by decide +kernel
theorem dX3_exchange_35 : decode cX3_exchange 35 = .ok (.aload_n 0, 1) := by decide +kernel
theorem dX3_exchange_36 : decode cX3_exchange 36 = .ok (.getfield 122, 3) := by decide +kernel
theorem dX3_exchange_39 : decode cX3_exchange 39 = .ok (.if_icmp .lt 6, 3) := by decide +kernel
theorem dX3_exchange_42 : decode cX3_exchange 42 = .ok (.bipush (-11), 2) := by decide +kernel
theorem dX3_exchange_44 : decode cX3_exchange 44 = .ok (.ireturn, 1) := by decide +kernel
theorem dX3_exchange_45 : decode cX3_exchange 45 = .ok (.iload_n 1, 1) := by decide +kernel
theorem dX3_exchange_46 : decode cX3_exchange 46 = .ok (.iload_n 2, 1) := by decide +kernel
theorem dX3_exchange_47 : decode cX3_exchange 47 = .ok (.if_icmp .eq 19, 3) := by decide +kernel
theorem dX3_exchange_50 : decode cX3_exchange 50 = .ok (.iload_n 1, 1) := by decide +kernel
theorem dX3_exchange_51 : decode cX3_exchange 51 = .ok (.aload_n 0, 1) := by decide +kernel
theorem dX3_exchange_52 : decode cX3_exchange 52 = .ok (.getfield 84, 3) := by decide +kernel
theorem dX3_exchange_55 : decode cX3_exchange 55 = .ok (.if_icmp .lt 11, 3) := by decide +kernel
theorem dX3_exchange_58 : decode cX3_exchange 58 = .ok (.iload_n 2, 1) := by decide +kernel
theorem dX3_exchange_59 : decode cX3_exchange 59 = .ok (.aload_n 0, 1) := by decide +kernel
theorem dX3_exchange_60 : decode cX3_exchange 60 = .ok (.getfield 84, 3) := by decide +kernel
theorem dX3_exchange_63 : decode cX3_exchange 63 = .ok (.if_icmp .ge 6, 3) := by decide +kernel
theorem dX3_exchange_66 : decode cX3_exchange 66 = .ok (.bipush (-13), 2) := by decide +kernel
theorem dX3_exchange_68 : decode cX3_exchange 68 = .ok (.ireturn, 1) := by decide +kernel
theorem dX3_exchange_69 : decode cX3_exchange 69 = .ok (.aload_n 0, 1) := by decide +kernel
theorem dX3_exchange_70 : decode cX3_exchange 70 = .ok (.invokevirtual 147, 3) := by decide +kernel
theorem dX3_exchange_73 : decode cX3_exchange 73 = .ok (.aload_n 0, 1) := by decide +kernel
theorem dX3_exchange_74 : decode cX3_exchange 74 = .ok (.iload_n 1, 1) := by decide +kernel
theorem dX3_exchange_75 : decode cX3_exchange 75 = .ok (.iload_n 2, 1) := by decide +kernel
theorem dX3_exchange_76 : decode cX3_exchange 76 = .ok (.invokevirtual 118, 3) := by decide +kernel
theorem dX3_exchange_79 : decode cX3_exchange 79 = .ok (.ifCond .ne 5, 3) := by decide +kernel
theorem dX3_exchange_82 : decode cX3_exchange 82 = .ok (.iconst 0, 1) := by decide +kernel
theorem dX3_exchange_83 : decode cX3_exchange 83 = .ok (.ireturn, 1) := by decide +kernel
theorem dX3_exchange_84 : decode cX3_exchange 84 = .ok (.aload_n 0, 1) := by decide +kernel
theorem dX3_exchange_85 : decode cX3_exchange 85 = .ok (.invokevirtual 144, 3) := by decide +kernel
theorem dX3_exchange_88 : decode cX3_exchange 88 = .ok (.aload_n 0, 1) := by decide +kernel
theorem dX3_exchange_89 : decode cX3_exchange 89 = .ok (.iconst 0, 1) := by decide +kernel
theorem dX3_exchange_90 : decode cX3_exchange 90 = .ok (.putfield 65, 3) := by decide +kernel
theorem dX3_exchange_93 : decode cX3_exchange 93 = .ok (.iconst 1, 1) := by decide +kernel
theorem dX3_exchange_94 : decode cX3_exchange 94 = .ok (.ireturn, 1) := by decide +kernel
theorem dX3_bound_0 : decode cX3_bound 0 = .ok (.aload_n 0, 1) := by decide +kernel
theorem dX3_bound_1 : decode cX3_bound 1 = .ok (.iconst 0, 1) := by decide +kernel
theorem dX3_bound_2 : decode cX3_bound 2 = .ok (.putfield 51, 3) := by decide +kernel
theorem dX3_bound_5 : decode cX3_bound 5 = .ok (.aload_n 0, 1) := by decide +kernel
theorem dX3_bound_6 : decode cX3_bound 6 = .ok (.getfield 54, 3) := by decide +kernel
theorem dX3_bound_9 : decode cX3_bound 9 = .ok (.ifCond .ne 5, 3) := by decide +kernel
theorem dX3_bound_12 : decode cX3_bound 12 = .ok (.lconst 0, 1) := by decide +kernel
theorem dX3_bound_13 : decode cX3_bound 13 = .ok (.lreturn, 1) := by decide +kernel
theorem dX3_bound_14 : decode cX3_bound 14 = .ok (.lconst 0, 1) := by decide +kernel
theorem dX3_bound_15 : decode cX3_bound 15 = .ok (.lstore_n 1, 1) := by decide +kernel
theorem dX3_bound_16 : decode cX3_bound 16 = .ok (.iconst 0, 1) := by decide +kernel
theorem dX3_bound_17 : decode cX3_bound 17 = .ok (.istore_n 3, 1) := by decide +kernel
theorem dX3_bound_18 : decode cX3_bound 18 = .ok (.iload_n 3, 1) := by decide +kernel
theorem dX3_bound_19 : decode cX3_bound 19 = .ok (.aload_n 0, 1) := by decide +kernel
theorem dX3_bound_20 : decode cX3_bound 20 = .ok (.getfield 54, 3) := by decide +kernel
theorem dX3_bound_23 : decode cX3_bound 23 = .ok (.if_icmp .gt 110, 3) := by decide +kernel
theorem dX3_bound_26 : decode cX3_bound 26 = .ok (.ldc2_w 87, 3) := by decide +kernel
theorem dX3_bound_29 : decode cX3_bound 29 = .ok (.lstore 4, 2) := by decide +kernel
theorem dX3_bound_31 : decode cX3_bound 31 = .ok (.iconst 0, 1) := by decide +kernel
theorem dX3_bound_32 : decode cX3_bound 32 = .ok (.istore 6, 2) := by decide +kernel
theorem dX3_bound_34 : decode cX3_bound 34 = .ok (.iload 6, 2) := by decide +kernel
theorem dX3_bound_36 : decode cX3_bound 36 = .ok (.aload_n 0, 1) := by decide +kernel
theorem dX3_bound_37 : decode cX3_bound 37 = .ok (.getfield 54, 3) := by decide +kernel
theorem dX3_bound_40 : decode cX3_bound 40 = .ok (.if_icmp .gt 62, 3) := by decide +kernel
theorem dX3_bound_43 : decode cX3_bound 43 = .ok (.iload 6, 2) := by decide +kernel
theorem dX3_bound_45 : decode cX3_bound 45 = .ok (.iload_n 3, 1) := by decide +kernel
theorem dX3_bound_46 : decode cX3_bound 46 = .ok (.if_icmp .eq 50, 3) := by decide +kernel
theorem dX3_bound_49 : decode cX3_bound 49 = .ok (.aload_n 0, 1) := by decide +kernel
theorem dX3_bound_50 : decode cX3_bound 50 = .ok (.getfield 30, 3) := by decide +kernel
theorem dX3_bound_53 : decode cX3_bound 53 = .ok (.bipush 21, 2) := by decide +kernel
theorem dX3_bound_55 : decode cX3_bound 55 = .ok (.iload 6, 2) := by decide +kernel
theorem dX3_bound_57 : decode cX3_bound 57 = .ok (.imul, 1) := by decide +kernel
theorem dX3_bound_58 : decode cX3_bound 58 = .ok (.iload_n 3, 1) := by decide +kernel
theorem dX3_bound_59 : decode cX3_bound 59 = .ok (.iadd, 1) := by decide +kernel
theorem dX3_bound_60 : decode cX3_bound 60 = .ok (.baload, 1) := by decide +kernel
theorem dX3_bound_61 : decode cX3_bound 61 = .ok (.ifCond .ne 35, 3) := by decide +kernel
theorem dX3_bound_64 : decode cX3_bound 64 = .ok (.aload_n 0, 1) := by decide +kernel
theorem dX3_bound_65 : decode cX3_bound 65 = .ok (.getfield 27, 3) := by decide +kernel
theorem dX3_bound_68 : decode cX3_bound 68 = .ok (.bipush 21, 2) := by decide +kernel
theorem dX3_bound_70 : decode cX3_bound 70 = .ok (.iload 6, 2) := by decide +kernel
theorem dX3_bound_72 : decode cX3_bound 72 = .ok (.imul, 1) := by decide +kernel
theorem dX3_bound_73 : decode cX3_bound 73 = .ok (.iload_n 3, 1) := by decide +kernel
theorem dX3_bound_74 : decode cX3_bound 74 = .ok (.iadd, 1) := by decide +kernel
theorem dX3_bound_75 : decode cX3_bound 75 = .ok (.laload, 1) := by decide +kernel
theorem dX3_bound_76 : decode cX3_bound 76 = .ok (.lload 4, 2) := by decide +kernel
theorem dX3_bound_78 : decode cX3_bound 78 = .ok (.lcmp, 1) := by decide +kernel
theorem dX3_bound_79 : decode cX3_bound 79 = .ok (.ifCond .ge 17, 3) := by decide +kernel
theorem dX3_bound_82 : decode cX3_bound 82 = .ok (.aload_n 0, 1) := by decide +kernel
theorem dX3_bound_83 : decode cX3_bound 83 = .ok (.getfield 27, 3) := by decide +kernel
theorem dX3_bound_86 : decode cX3_bound 86 = .ok (.bipush 21, 2) := by decide +kernel
theorem dX3_bound_88 : decode cX3_bound 88 = .ok (.iload 6, 2) := by decide +kernel
theorem dX3_bound_90 : decode cX3_bound 90 = .ok (.imul, 1) := by decide +kernel
theorem dX3_bound_91 : decode cX3_bound 91 = .ok (.iload_n 3, 1) := by decide +kernel
theorem dX3_bound_92 : decode cX3_bound 92 = .ok (.iadd, 1) := by decide +kernel
theorem dX3_bound_93 : decode cX3_bound 93 = .ok (.laload, 1) := by decide +kernel
theorem dX3_bound_94 : decode cX3_bound 94 = .ok (.lstore 4, 2) := by decide +kernel
theorem dX3_bound_96 : decode cX3_bound 96 = .ok (.iinc 6 1, 3) := by decide +kernel
theorem dX3_bound_99 : decode cX3_bound 99 = .ok (.goto (-65), 3) := by decide +kernel
theorem dX3_bound_102 : decode cX3_bound 102 = .ok (.lload 4, 2) := by decide +kernel
theorem dX3_bound_104 : decode cX3_bound 104 = .ok (.ldc2_w 87, 3) := by decide +kernel
theorem dX3_bound_107 : decode cX3_bound 107 = .ok (.lcmp, 1) := by decide +kernel
theorem dX3_bound_108 : decode cX3_bound 108 = .ok (.ifCond .ne 7, 3) := by decide +kernel
theorem dX3_bound_111 : decode cX3_bound 111 = .ok (.ldc2_w 150, 3) := by decide +kernel
theorem dX3_bound_114 : decode cX3_bound 114 = .ok (.lreturn, 1) := by decide +kernel
theorem dX3_bound_115 : decode cX3_bound 115 = .ok (.lload_n 1, 1) := by decide +kernel
theorem dX3_bound_116 : decode cX3_bound 116 = .ok (.lload 4, 2) := by decide +kernel
theorem dX3_bound_118 : decode cX3_bound 118 = .ok (.ladd, 1) := by decide +kernel
theorem dX3_bound_119 : decode cX3_bound 119 = .ok (.aload_n 0, 1) := by decide +kernel
theorem dX3_bound_120 : decode cX3_bound 120 = .ok (.getfield 7, 3) := by decide +kernel
theorem dX3_bound_123 : decode cX3_bound 123 = .ok (.iload_n 3, 1) := by decide +kernel
theorem dX3_bound_124 : decode cX3_bound 124 = .ok (.laload, 1) := by decide +kernel
theorem dX3_bound_125 : decode cX3_bound 125 = .ok (.ladd, 1) := by decide +kernel
theorem dX3_bound_126 : decode cX3_bound 126 = .ok (.lstore_n 1, 1) := by decide +kernel
theorem dX3_bound_127 : decode cX3_bound 127 = .ok (.iinc 3 1, 3) := by decide +kernel
theorem dX3_bound_130 : decode cX3_bound 130 = .ok (.goto (-112), 3) := by decide +kernel
theorem dX3_bound_133 : decode cX3_bound 133 = .ok (.lload_n 1, 1) := by decide +kernel
theorem dX3_bound_134 : decode cX3_bound 134 = .ok (.lreturn, 1) := by decide +kernel
theorem dJ9_max_f86c9_0 : decode cJ9_max_f86c9 0 = .ok (.lload_n 0, 1) := by decide +kernel
theorem dJ9_max_f86c9_1 : decode cJ9_max_f86c9 1 = .ok (.lload_n 2, 1) := by decide +kernel
theorem dJ9_max_f86c9_2 : decode cJ9_max_f86c9 2 = .ok (.lcmp, 1) := by decide +kernel
theorem dJ9_max_f86c9_3 : decode cJ9_max_f86c9 3 = .ok (.ifCond .lt 7, 3) := by decide +kernel
theorem dJ9_max_f86c9_6 : decode cJ9_max_f86c9 6 = .ok (.lload_n 0, 1) := by decide +kernel
theorem dJ9_max_f86c9_7 : decode cJ9_max_f86c9 7 = .ok (.goto 4, 3) := by decide +kernel
theorem dJ9_max_f86c9_10 : decode cJ9_max_f86c9 10 = .ok (.lload_n 2, 1) := by decide +kernel
theorem dJ9_max_f86c9_11 : decode cJ9_max_f86c9 11 = .ok (.lreturn, 1) := by decide +kernel
theorem dJ9_min_f86c9_0 : decode cJ9_min_f86c9 0 = .ok (.lload_n 0, 1) := by decide +kernel
theorem dJ9_min_f86c9_1 : decode cJ9_min_f86c9 1 = .ok (.lload_n 2, 1) := by decide +kernel
theorem dJ9_min_f86c9_2 : decode cJ9_min_f86c9 2 = .ok (.lcmp, 1) := by decide +kernel
theorem dJ9_min_f86c9_3 : decode cJ9_min_f86c9 3 = .ok (.ifCond .gt 7, 3) := by decide +kernel
theorem dJ9_min_f86c9_6 : decode cJ9_min_f86c9 6 = .ok (.lload_n 0, 1) := by decide +kernel
theorem dJ9_min_f86c9_7 : decode cJ9_min_f86c9 7 = .ok (.goto 4, 3) := by decide +kernel
theorem dJ9_min_f86c9_10 : decode cJ9_min_f86c9 10 = .ok (.lload_n 2, 1) := by decide +kernel
theorem dJ9_min_f86c9_11 : decode cJ9_min_f86c9 11 = .ok (.lreturn, 1) := by decide +kernel
theorem dL_at_0 : decode cL_at 0 = .ok (.aload_n 2, 1) := by decide +kernel
theorem dL_at_1 : decode cL_at 1 = .ok (.iconst 0, 1) := by decide +kernel
theorem dL_at_2 : decode cL_at 2 = .ok (.aload_n 0, 1) := by decide +kernel
theorem dL_at_3 : decode cL_at 3 = .ok (.iload_n 1, 1) := by decide +kernel
theorem dL_at_4 : decode cL_at 4 = .ok (.invokevirtual 7, 3) := by decide +kernel
theorem dL_at_7 : decode cL_at 7 = .ok (.i2l, 1) := by decide +kernel
theorem dL_at_8 : decode cL_at 8 = .ok (.lastore, 1) := by decide +kernel
theorem dL_at_9 : decode cL_at 9 = .ok (.goto 6, 3) := by decide +kernel
theorem dL_at_12 : decode cL_at 12 = .ok (.astore_n 3, 1) := by decide +kernel
theorem dL_at_13 : decode cL_at 13 = .ok (.iconst 1, 1) := by decide +kernel
theorem dL_at_14 : decode cL_at 14 = .ok (.ireturn, 1) := by decide +kernel
theorem dL_at_15 : decode cL_at 15 = .ok (.iconst 0, 1) := by decide +kernel
theorem dL_at_16 : decode cL_at 16 = .ok (.ireturn, 1) := by decide +kernel
theorem dL_law_0 : decode cL_law 0 = .ok (.new 8, 3) := by decide +kernel
theorem dL_law_3 : decode cL_law 3 = .ok (.dup, 1) := by decide +kernel
theorem dL_law_4 : decode cL_law 4 = .ok (.invokespecial 15, 3) := by decide +kernel
theorem dL_law_7 : decode cL_law 7 = .ok (.astore_n 1, 1) := by decide +kernel
theorem dL_law_8 : decode cL_law 8 = .ok (.new 16, 3) := by decide +kernel
theorem dL_law_11 : decode cL_law 11 = .ok (.dup, 1) := by decide +kernel
theorem dL_law_12 : decode cL_law 12 = .ok (.invokespecial 18, 3) := by decide +kernel
theorem dL_law_15 : decode cL_law 15 = .ok (.astore_n 2, 1) := by decide +kernel
theorem dL_law_16 : decode cL_law 16 = .ok (.iconst 1, 1) := by decide +kernel
theorem dL_law_17 : decode cL_law 17 = .ok (.newarray .long, 2) := by decide +kernel
theorem dL_law_19 : decode cL_law 19 = .ok (.astore_n 3, 1) := by decide +kernel
theorem dL_law_20 : decode cL_law 20 = .ok (.iconst 0, 1) := by decide +kernel
theorem dL_law_21 : decode cL_law 21 = .ok (.istore 4, 2) := by decide +kernel
theorem dL_law_23 : decode cL_law 23 = .ok (.iload 4, 2) := by decide +kernel
theorem dL_law_25 : decode cL_law 25 = .ok (.aload_n 0, 1) := by decide +kernel
theorem dL_law_26 : decode cL_law 26 = .ok (.arraylength, 1) := by decide +kernel
theorem dL_law_27 : decode cL_law 27 = .ok (.bipush 7, 2) := by decide +kernel
theorem dL_law_29 : decode cL_law 29 = .ok (.isub, 1) := by decide +kernel
theorem dL_law_30 : decode cL_law 30 = .ok (.if_icmp .gt 674, 3) := by decide +kernel
theorem dL_law_33 : decode cL_law 33 = .ok (.aload_n 0, 1) := by decide +kernel
theorem dL_law_34 : decode cL_law 34 = .ok (.iload 4, 2) := by decide +kernel
theorem dL_law_36 : decode cL_law 36 = .ok (.iaload, 1) := by decide +kernel
theorem dL_law_37 : decode cL_law 37 = .ok (.bipush 15, 2) := by decide +kernel
theorem dL_law_39 : decode cL_law 39 = .ok (.iand, 1) := by decide +kernel
theorem dL_law_40 : decode cL_law 40 = .ok (.tableswitch 658 0 12 #[68, 215, 294, 331, 356, 414, 470, 483, 508, 533, 558, 607, 644], 68) := by decide +kernel
theorem dL_law_108 : decode cL_law 108 = .ok (.aload_n 1, 1) := by decide +kernel
theorem dL_law_109 : decode cL_law 109 = .ok (.aload_n 0, 1) := by decide +kernel
theorem dL_law_110 : decode cL_law 110 = .ok (.iload 4, 2) := by decide +kernel
theorem dL_law_112 : decode cL_law 112 = .ok (.iconst 1, 1) := by decide +kernel
theorem dL_law_113 : decode cL_law 113 = .ok (.iadd, 1) := by decide +kernel
theorem dL_law_114 : decode cL_law 114 = .ok (.iaload, 1) := by decide +kernel
theorem dL_law_115 : decode cL_law 115 = .ok (.i2l, 1) := by decide +kernel
theorem dL_law_116 : decode cL_law 116 = .ok (.bipush 32, 2) := by decide +kernel
theorem dL_law_118 : decode cL_law 118 = .ok (.lshl, 1) := by decide +kernel
theorem dL_law_119 : decode cL_law 119 = .ok (.aload_n 0, 1) := by decide +kernel
theorem dL_law_120 : decode cL_law 120 = .ok (.iload 4, 2) := by decide +kernel
theorem dL_law_122 : decode cL_law 122 = .ok (.iconst 2, 1) := by decide +kernel
theorem dL_law_123 : decode cL_law 123 = .ok (.iadd, 1) := by decide +kernel
theorem dL_law_124 : decode cL_law 124 = .ok (.iaload, 1) := by decide +kernel
theorem dL_law_125 : decode cL_law 125 = .ok (.i2l, 1) := by decide +kernel
theorem dL_law_126 : decode cL_law 126 = .ok (.ldc2_w 19, 3) := by decide +kernel
theorem dL_law_129 : decode cL_law 129 = .ok (.land, 1) := by decide +kernel
theorem dL_law_130 : decode cL_law 130 = .ok (.lor, 1) := by decide +kernel
theorem dL_law_131 : decode cL_law 131 = .ok (.aload_n 0, 1) := by decide +kernel
theorem dL_law_132 : decode cL_law 132 = .ok (.iload 4, 2) := by decide +kernel
theorem dL_law_134 : decode cL_law 134 = .ok (.iconst 3, 1) := by decide +kernel
theorem dL_law_135 : decode cL_law 135 = .ok (.iadd, 1) := by decide +kernel
theorem dL_law_136 : decode cL_law 136 = .ok (.iaload, 1) := by decide +kernel
theorem dL_law_137 : decode cL_law 137 = .ok (.i2l, 1) := by decide +kernel
theorem dL_law_138 : decode cL_law 138 = .ok (.bipush 32, 2) := by decide +kernel
theorem dL_law_140 : decode cL_law 140 = .ok (.lshl, 1) := by decide +kernel
theorem dL_law_141 : decode cL_law 141 = .ok (.aload_n 0, 1) := by decide +kernel
theorem dL_law_142 : decode cL_law 142 = .ok (.iload 4, 2) := by decide +kernel
theorem dL_law_144 : decode cL_law 144 = .ok (.iconst 4, 1) := by decide +kernel
theorem dL_law_145 : decode cL_law 145 = .ok (.iadd, 1) := by decide +kernel
theorem dL_law_146 : decode cL_law 146 = .ok (.iaload, 1) := by decide +kernel
theorem dL_law_147 : decode cL_law 147 = .ok (.i2l, 1) := by decide +kernel
theorem dL_law_148 : decode cL_law 148 = .ok (.ldc2_w 19, 3) := by decide +kernel
theorem dL_law_151 : decode cL_law 151 = .ok (.land, 1) := by decide +kernel
theorem dL_law_152 : decode cL_law 152 = .ok (.lor, 1) := by decide +kernel
theorem dL_law_153 : decode cL_law 153 = .ok (.aload_n 0, 1) := by decide +kernel
theorem dL_law_154 : decode cL_law 154 = .ok (.iload 4, 2) := by decide +kernel
theorem dL_law_156 : decode cL_law 156 = .ok (.iconst 5, 1) := by decide +kernel
theorem dL_law_157 : decode cL_law 157 = .ok (.iadd, 1) := by decide +kernel
theorem dL_law_158 : decode cL_law 158 = .ok (.iaload, 1) := by decide +kernel
theorem dL_law_159 : decode cL_law 159 = .ok (.i2l, 1) := by decide +kernel
theorem dL_law_160 : decode cL_law 160 = .ok (.bipush 32, 2) := by decide +kernel
theorem dL_law_162 : decode cL_law 162 = .ok (.lshl, 1) := by decide +kernel
theorem dL_law_163 : decode cL_law 163 = .ok (.aload_n 0, 1) := by decide +kernel
theorem dL_law_164 : decode cL_law 164 = .ok (.iload 4, 2) := by decide +kernel
theorem dL_law_166 : decode cL_law 166 = .ok (.bipush 6, 2) := by decide +kernel
theorem dL_law_168 : decode cL_law 168 = .ok (.iadd, 1) := by decide +kernel
theorem dL_law_169 : decode cL_law 169 = .ok (.iaload, 1) := by decide +kernel
theorem dL_law_170 : decode cL_law 170 = .ok (.i2l, 1) := by decide +kernel
theorem dL_law_171 : decode cL_law 171 = .ok (.ldc2_w 19, 3) := by decide +kernel
theorem dL_law_174 : decode cL_law 174 = .ok (.land, 1) := by decide +kernel
theorem dL_law_175 : decode cL_law 175 = .ok (.lor, 1) := by decide +kernel
theorem dL_law_176 : decode cL_law 176 = .ok (.invokevirtual 21, 3) := by decide +kernel
theorem dL_law_179 : decode cL_law 179 = .ok (.aload_n 2, 1) := by decide +kernel
theorem dL_law_180 : decode cL_law 180 = .ok (.aload_n 0, 1) := by decide +kernel
theorem dL_law_181 : decode cL_law 181 = .ok (.iload 4, 2) := by decide +kernel
theorem dL_law_183 : decode cL_law 183 = .ok (.iconst 1, 1) := by decide +kernel
theorem dL_law_184 : decode cL_law 184 = .ok (.iadd, 1) := by decide +kernel
theorem dL_law_185 : decode cL_law 185 = .ok (.iaload, 1) := by decide +kernel
theorem dL_law_186 : decode cL_law 186 = .ok (.i2l, 1) := by decide +kernel
theorem dL_law_187 : decode cL_law 187 = .ok (.bipush 32, 2) := by decide +kernel
theorem dL_law_189 : decode cL_law 189 = .ok (.lshl, 1) := by decide +kernel
theorem dL_law_190 : decode cL_law 190 = .ok (.aload_n 0, 1) := by decide +kernel
theorem dL_law_191 : decode cL_law 191 = .ok (.iload 4, 2) := by decide +kernel
theorem dL_law_193 : decode cL_law 193 = .ok (.iconst 2, 1) := by decide +kernel
theorem dL_law_194 : decode cL_law 194 = .ok (.iadd, 1) := by decide +kernel
theorem dL_law_195 : decode cL_law 195 = .ok (.iaload, 1) := by decide +kernel
theorem dL_law_196 : decode cL_law 196 = .ok (.i2l, 1) := by decide +kernel
theorem dL_law_197 : decode cL_law 197 = .ok (.ldc2_w 19, 3) := by decide +kernel
theorem dL_law_200 : decode cL_law 200 = .ok (.land, 1) := by decide +kernel
theorem dL_law_201 : decode cL_law 201 = .ok (.lor, 1) := by decide +kernel
theorem dL_law_202 : decode cL_law 202 = .ok (.aload_n 0, 1) := by decide +kernel
theorem dL_law_203 : decode cL_law 203 = .ok (.iload 4, 2) := by decide +kernel
theorem dL_law_205 : decode cL_law 205 = .ok (.iconst 3, 1) := by decide +kernel
theorem dL_law_206 : decode cL_law 206 = .ok (.iadd, 1) := by decide +kernel
theorem dL_law_207 : decode cL_law 207 = .ok (.iaload, 1) := by decide +kernel
theorem dL_law_208 : decode cL_law 208 = .ok (.i2l, 1) := by decide +kernel
theorem dL_law_209 : decode cL_law 209 = .ok (.bipush 32, 2) := by decide +kernel
theorem dL_law_211 : decode cL_law 211 = .ok (.lshl, 1) := by decide +kernel
theorem dL_law_212 : decode cL_law 212 = .ok (.aload_n 0, 1) := by decide +kernel
theorem dL_law_213 : decode cL_law 213 = .ok (.iload 4, 2) := by decide +kernel
theorem dL_law_215 : decode cL_law 215 = .ok (.iconst 4, 1) := by decide +kernel
theorem dL_law_216 : decode cL_law 216 = .ok (.iadd, 1) := by decide +kernel
theorem dL_law_217 : decode cL_law 217 = .ok (.iaload, 1) := by decide +kernel
theorem dL_law_218 : decode cL_law 218 = .ok (.i2l, 1) := by decide +kernel
theorem dL_law_219 : decode cL_law 219 = .ok (.ldc2_w 19, 3) := by decide +kernel
theorem dL_law_222 : decode cL_law 222 = .ok (.land, 1) := by decide +kernel
theorem dL_law_223 : decode cL_law 223 = .ok (.lor, 1) := by decide +kernel
theorem dL_law_224 : decode cL_law 224 = .ok (.aload_n 0, 1) := by decide +kernel
theorem dL_law_225 : decode cL_law 225 = .ok (.iload 4, 2) := by decide +kernel
theorem dL_law_227 : decode cL_law 227 = .ok (.iconst 5, 1) := by decide +kernel
theorem dL_law_228 : decode cL_law 228 = .ok (.iadd, 1) := by decide +kernel
theorem dL_law_229 : decode cL_law 229 = .ok (.iaload, 1) := by decide +kernel
theorem dL_law_230 : decode cL_law 230 = .ok (.i2l, 1) := by decide +kernel
theorem dL_law_231 : decode cL_law 231 = .ok (.bipush 32, 2) := by decide +kernel
theorem dL_law_233 : decode cL_law 233 = .ok (.lshl, 1) := by decide +kernel
theorem dL_law_234 : decode cL_law 234 = .ok (.aload_n 0, 1) := by decide +kernel
theorem dL_law_235 : decode cL_law 235 = .ok (.iload 4, 2) := by decide +kernel
theorem dL_law_237 : decode cL_law 237 = .ok (.bipush 6, 2) := by decide +kernel
theorem dL_law_239 : decode cL_law 239 = .ok (.iadd, 1) := by decide +kernel
theorem dL_law_240 : decode cL_law 240 = .ok (.iaload, 1) := by decide +kernel
theorem dL_law_241 : decode cL_law 241 = .ok (.i2l, 1) := by decide +kernel
theorem dL_law_242 : decode cL_law 242 = .ok (.ldc2_w 19, 3) := by decide +kernel
theorem dL_law_245 : decode cL_law 245 = .ok (.land, 1) := by decide +kernel
theorem dL_law_246 : decode cL_law 246 = .ok (.lor, 1) := by decide +kernel
theorem dL_law_247 : decode cL_law 247 = .ok (.invokevirtual 25, 3) := by decide +kernel
theorem dL_law_250 : decode cL_law 250 = .ok (.if_icmp .eq 448, 3) := by decide +kernel
theorem dL_law_255 : decode cL_law 255 = .ok (.aload_n 1, 1) := by decide +kernel
theorem dL_law_256 : decode cL_law 256 = .ok (.aload_n 0, 1) := by decide +kernel
theorem dL_law_257 : decode cL_law 257 = .ok (.iload 4, 2) := by decide +kernel
theorem dL_law_259 : decode cL_law 259 = .ok (.iconst 1, 1) := by decide +kernel
theorem dL_law_260 : decode cL_law 260 = .ok (.iadd, 1) := by decide +kernel
theorem dL_law_261 : decode cL_law 261 = .ok (.iaload, 1) := by decide +kernel
theorem dL_law_262 : decode cL_law 262 = .ok (.aload_n 0, 1) := by decide +kernel
theorem dL_law_263 : decode cL_law 263 = .ok (.iload 4, 2) := by decide +kernel
theorem dL_law_265 : decode cL_law 265 = .ok (.iconst 2, 1) := by decide +kernel
theorem dL_law_266 : decode cL_law 266 = .ok (.iadd, 1) := by decide +kernel
theorem dL_law_267 : decode cL_law 267 = .ok (.iaload, 1) := by decide +kernel
theorem dL_law_268 : decode cL_law 268 = .ok (.aload_n 0, 1) := by decide +kernel
theorem dL_law_269 : decode cL_law 269 = .ok (.iload 4, 2) := by decide +kernel
theorem dL_law_271 : decode cL_law 271 = .ok (.iconst 3, 1) := by decide +kernel
theorem dL_law_272 : decode cL_law 272 = .ok (.iadd, 1) := by decide +kernel
theorem dL_law_273 : decode cL_law 273 = .ok (.iaload, 1) := by decide +kernel
theorem dL_law_274 : decode cL_law 274 = .ok (.i2l, 1) := by decide +kernel
theorem dL_law_275 : decode cL_law 275 = .ok (.bipush 32, 2) := by decide +kernel
theorem dL_law_277 : decode cL_law 277 = .ok (.lshl, 1) := by decide +kernel
theorem dL_law_278 : decode cL_law 278 = .ok (.aload_n 0, 1) := by decide +kernel
theorem dL_law_279 : decode cL_law 279 = .ok (.iload 4, 2) := by decide +kernel
theorem dL_law_281 : decode cL_law 281 = .ok (.iconst 4, 1) := by decide +kernel
theorem dL_law_282 : decode cL_law 282 = .ok (.iadd, 1) := by decide +kernel
theorem dL_law_283 : decode cL_law 283 = .ok (.iaload, 1) := by decide +kernel
theorem dL_law_284 : decode cL_law 284 = .ok (.i2l, 1) := by decide +kernel
theorem dL_law_285 : decode cL_law 285 = .ok (.ldc2_w 19, 3) := by decide +kernel
theorem dL_law_288 : decode cL_law 288 = .ok (.land, 1) := by decide +kernel
theorem dL_law_289 : decode cL_law 289 = .ok (.lor, 1) := by decide +kernel
theorem dL_law_290 : decode cL_law 290 = .ok (.invokevirtual 26, 3) := by decide +kernel
theorem dL_law_293 : decode cL_law 293 = .ok (.aload_n 2, 1) := by decide +kernel
theorem dL_law_294 : decode cL_law 294 = .ok (.aload_n 0, 1) := by decide +kernel
theorem dL_law_295 : decode cL_law 295 = .ok (.iload 4, 2) := by decide +kernel
theorem dL_law_297 : decode cL_law 297 = .ok (.iconst 1, 1) := by decide +kernel
theorem dL_law_298 : decode cL_law 298 = .ok (.iadd, 1) := by decide +kernel
theorem dL_law_299 : decode cL_law 299 = .ok (.iaload, 1) := by decide +kernel
theorem dL_law_300 : decode cL_law 300 = .ok (.aload_n 0, 1) := by decide +kernel
theorem dL_law_301 : decode cL_law 301 = .ok (.iload 4, 2) := by decide +kernel
theorem dL_law_303 : decode cL_law 303 = .ok (.iconst 2, 1) := by decide +kernel
theorem dL_law_304 : decode cL_law 304 = .ok (.iadd, 1) := by decide +kernel
theorem dL_law_305 : decode cL_law 305 = .ok (.iaload, 1) := by decide +kernel
theorem dL_law_306 : decode cL_law 306 = .ok (.aload_n 0, 1) := by decide +kernel
theorem dL_law_307 : decode cL_law 307 = .ok (.iload 4, 2) := by decide +kernel
theorem dL_law_309 : decode cL_law 309 = .ok (.iconst 3, 1) := by decide +kernel
theorem dL_law_310 : decode cL_law 310 = .ok (.iadd, 1) := by decide +kernel
theorem dL_law_311 : decode cL_law 311 = .ok (.iaload, 1) := by decide +kernel
theorem dL_law_312 : decode cL_law 312 = .ok (.i2l, 1) := by decide +kernel
theorem dL_law_313 : decode cL_law 313 = .ok (.bipush 32, 2) := by decide +kernel
theorem dL_law_315 : decode cL_law 315 = .ok (.lshl, 1) := by decide +kernel
theorem dL_law_316 : decode cL_law 316 = .ok (.aload_n 0, 1) := by decide +kernel
theorem dL_law_317 : decode cL_law 317 = .ok (.iload 4, 2) := by decide +kernel
theorem dL_law_319 : decode cL_law 319 = .ok (.iconst 4, 1) := by decide +kernel
theorem dL_law_320 : decode cL_law 320 = .ok (.iadd, 1) := by decide +kernel
theorem dL_law_321 : decode cL_law 321 = .ok (.iaload, 1) := by decide +kernel
theorem dL_law_322 : decode cL_law 322 = .ok (.i2l, 1) := by decide +kernel
theorem dL_law_323 : decode cL_law 323 = .ok (.ldc2_w 19, 3) := by decide +kernel
theorem dL_law_326 : decode cL_law 326 = .ok (.land, 1) := by decide +kernel
theorem dL_law_327 : decode cL_law 327 = .ok (.lor, 1) := by decide +kernel
theorem dL_law_328 : decode cL_law 328 = .ok (.invokevirtual 30, 3) := by decide +kernel
theorem dL_law_331 : decode cL_law 331 = .ok (.goto 367, 3) := by decide +kernel
theorem dL_law_334 : decode cL_law 334 = .ok (.aload_n 1, 1) := by decide +kernel
theorem dL_law_335 : decode cL_law 335 = .ok (.aload_n 0, 1) := by decide +kernel
theorem dL_law_336 : decode cL_law 336 = .ok (.iload 4, 2) := by decide +kernel
theorem dL_law_338 : decode cL_law 338 = .ok (.iconst 1, 1) := by decide +kernel
theorem dL_law_339 : decode cL_law 339 = .ok (.iadd, 1) := by decide +kernel
theorem dL_law_340 : decode cL_law 340 = .ok (.iaload, 1) := by decide +kernel
theorem dL_law_341 : decode cL_law 341 = .ok (.aload_n 0, 1) := by decide +kernel
theorem dL_law_342 : decode cL_law 342 = .ok (.iload 4, 2) := by decide +kernel
theorem dL_law_344 : decode cL_law 344 = .ok (.iconst 2, 1) := by decide +kernel
theorem dL_law_345 : decode cL_law 345 = .ok (.iadd, 1) := by decide +kernel
theorem dL_law_346 : decode cL_law 346 = .ok (.iaload, 1) := by decide +kernel
theorem dL_law_347 : decode cL_law 347 = .ok (.invokevirtual 31, 3) := by decide +kernel
theorem dL_law_350 : decode cL_law 350 = .ok (.aload_n 2, 1) := by decide +kernel
theorem dL_law_351 : decode cL_law 351 = .ok (.aload_n 0, 1) := by decide +kernel
theorem dL_law_352 : decode cL_law 352 = .ok (.iload 4, 2) := by decide +kernel
theorem dL_law_354 : decode cL_law 354 = .ok (.iconst 1, 1) := by decide +kernel
theorem dL_law_355 : decode cL_law 355 = .ok (.iadd, 1) := by decide +kernel
theorem dL_law_356 : decode cL_law 356 = .ok (.iaload, 1) := by decide +kernel
theorem dL_law_357 : decode cL_law 357 = .ok (.aload_n 0, 1) := by decide +kernel
theorem dL_law_358 : decode cL_law 358 = .ok (.iload 4, 2) := by decide +kernel
theorem dL_law_360 : decode cL_law 360 = .ok (.iconst 2, 1) := by decide +kernel
theorem dL_law_361 : decode cL_law 361 = .ok (.iadd, 1) := by decide +kernel
theorem dL_law_362 : decode cL_law 362 = .ok (.iaload, 1) := by decide +kernel
theorem dL_law_363 : decode cL_law 363 = .ok (.invokevirtual 35, 3) := by decide +kernel
theorem dL_law_366 : decode cL_law 366 = .ok (.if_icmp .eq 332, 3) := by decide +kernel
theorem dL_law_371 : decode cL_law 371 = .ok (.aload_n 1, 1) := by decide +kernel
theorem dL_law_372 : decode cL_law 372 = .ok (.aload_n 0, 1) := by decide +kernel
theorem dL_law_373 : decode cL_law 373 = .ok (.iload 4, 2) := by decide +kernel
theorem dL_law_375 : decode cL_law 375 = .ok (.iconst 1, 1) := by decide +kernel
theorem dL_law_376 : decode cL_law 376 = .ok (.iadd, 1) := by decide +kernel
theorem dL_law_377 : decode cL_law 377 = .ok (.iaload, 1) := by decide +kernel
theorem dL_law_378 : decode cL_law 378 = .ok (.invokevirtual 36, 3) := by decide +kernel
theorem dL_law_381 : decode cL_law 381 = .ok (.aload_n 2, 1) := by decide +kernel
theorem dL_law_382 : decode cL_law 382 = .ok (.aload_n 0, 1) := by decide +kernel
theorem dL_law_383 : decode cL_law 383 = .ok (.iload 4, 2) := by decide +kernel
theorem dL_law_385 : decode cL_law 385 = .ok (.iconst 1, 1) := by decide +kernel
theorem dL_law_386 : decode cL_law 386 = .ok (.iadd, 1) := by decide +kernel
theorem dL_law_387 : decode cL_law 387 = .ok (.iaload, 1) := by decide +kernel
theorem dL_law_388 : decode cL_law 388 = .ok (.invokevirtual 39, 3) := by decide +kernel
theorem dL_law_391 : decode cL_law 391 = .ok (.if_icmp .eq 307, 3) := by decide +kernel
theorem dL_law_396 : decode cL_law 396 = .ok (.aload_n 1, 1) := by decide +kernel
theorem dL_law_397 : decode cL_law 397 = .ok (.aload_n 0, 1) := by decide +kernel
theorem dL_law_398 : decode cL_law 398 = .ok (.iload 4, 2) := by decide +kernel
theorem dL_law_400 : decode cL_law 400 = .ok (.iconst 1, 1) := by decide +kernel
theorem dL_law_401 : decode cL_law 401 = .ok (.iadd, 1) := by decide +kernel
theorem dL_law_402 : decode cL_law 402 = .ok (.iaload, 1) := by decide +kernel
theorem dL_law_403 : decode cL_law 403 = .ok (.i2l, 1) := by decide +kernel
theorem dL_law_404 : decode cL_law 404 = .ok (.bipush 32, 2) := by decide +kernel
theorem dL_law_406 : decode cL_law 406 = .ok (.lshl, 1) := by decide +kernel
theorem dL_law_407 : decode cL_law 407 = .ok (.aload_n 0, 1) := by decide +kernel
theorem dL_law_408 : decode cL_law 408 = .ok (.iload 4, 2) := by decide +kernel
theorem dL_law_410 : decode cL_law 410 = .ok (.iconst 2, 1) := by decide +kernel
theorem dL_law_411 : decode cL_law 411 = .ok (.iadd, 1) := by decide +kernel
theorem dL_law_412 : decode cL_law 412 = .ok (.iaload, 1) := by decide +kernel
theorem dL_law_413 : decode cL_law 413 = .ok (.i2l, 1) := by decide +kernel
theorem dL_law_414 : decode cL_law 414 = .ok (.ldc2_w 19, 3) := by decide +kernel
theorem dL_law_417 : decode cL_law 417 = .ok (.land, 1) := by decide +kernel
theorem dL_law_418 : decode cL_law 418 = .ok (.lor, 1) := by decide +kernel
theorem dL_law_419 : decode cL_law 419 = .ok (.invokevirtual 40, 3) := by decide +kernel
theorem dL_law_422 : decode cL_law 422 = .ok (.aload_n 2, 1) := by decide +kernel
theorem dL_law_423 : decode cL_law 423 = .ok (.aload_n 0, 1) := by decide +kernel
theorem dL_law_424 : decode cL_law 424 = .ok (.iload 4, 2) := by decide +kernel
theorem dL_law_426 : decode cL_law 426 = .ok (.iconst 1, 1) := by decide +kernel
theorem dL_law_427 : decode cL_law 427 = .ok (.iadd, 1) := by decide +kernel
theorem dL_law_428 : decode cL_law 428 = .ok (.iaload, 1) := by decide +kernel
theorem dL_law_429 : decode cL_law 429 = .ok (.i2l, 1) := by decide +kernel
theorem dL_law_430 : decode cL_law 430 = .ok (.bipush 32, 2) := by decide +kernel
theorem dL_law_432 : decode cL_law 432 = .ok (.lshl, 1) := by decide +kernel
theorem dL_law_433 : decode cL_law 433 = .ok (.aload_n 0, 1) := by decide +kernel
theorem dL_law_434 : decode cL_law 434 = .ok (.iload 4, 2) := by decide +kernel
theorem dL_law_436 : decode cL_law 436 = .ok (.iconst 2, 1) := by decide +kernel
theorem dL_law_437 : decode cL_law 437 = .ok (.iadd, 1) := by decide +kernel
theorem dL_law_438 : decode cL_law 438 = .ok (.iaload, 1) := by decide +kernel
theorem dL_law_439 : decode cL_law 439 = .ok (.i2l, 1) := by decide +kernel
theorem dL_law_440 : decode cL_law 440 = .ok (.ldc2_w 19, 3) := by decide +kernel
theorem dL_law_443 : decode cL_law 443 = .ok (.land, 1) := by decide +kernel
theorem dL_law_444 : decode cL_law 444 = .ok (.lor, 1) := by decide +kernel
theorem dL_law_445 : decode cL_law 445 = .ok (.invokevirtual 44, 3) := by decide +kernel
theorem dL_law_448 : decode cL_law 448 = .ok (.lcmp, 1) := by decide +kernel
theorem dL_law_449 : decode cL_law 449 = .ok (.ifCond .eq 249, 3) := by decide +kernel
theorem dL_law_454 : decode cL_law 454 = .ok (.aload_n 1, 1) := by decide +kernel
theorem dL_law_455 : decode cL_law 455 = .ok (.aload_n 0, 1) := by decide +kernel
theorem dL_law_456 : decode cL_law 456 = .ok (.iload 4, 2) := by decide +kernel
theorem dL_law_458 : decode cL_law 458 = .ok (.iconst 1, 1) := by decide +kernel
theorem dL_law_459 : decode cL_law 459 = .ok (.iadd, 1) := by decide +kernel
theorem dL_law_460 : decode cL_law 460 = .ok (.iaload, 1) := by decide +kernel
theorem dL_law_461 : decode cL_law 461 = .ok (.aload_n 3, 1) := by decide +kernel
theorem dL_law_462 : decode cL_law 462 = .ok (.invokestatic 45, 3) := by decide +kernel
theorem dL_law_465 : decode cL_law 465 = .ok (.istore 5, 2) := by decide +kernel
theorem dL_law_467 : decode cL_law 467 = .ok (.aload_n 2, 1) := by decide +kernel
theorem dL_law_468 : decode cL_law 468 = .ok (.aload_n 0, 1) := by decide +kernel
theorem dL_law_469 : decode cL_law 469 = .ok (.iload 4, 2) := by decide +kernel
theorem dL_law_471 : decode cL_law 471 = .ok (.iconst 1, 1) := by decide +kernel
theorem dL_law_472 : decode cL_law 472 = .ok (.iadd, 1) := by decide +kernel
theorem dL_law_473 : decode cL_law 473 = .ok (.iaload, 1) := by decide +kernel
theorem dL_law_474 : decode cL_law 474 = .ok (.invokevirtual 50, 3) := by decide +kernel
theorem dL_law_477 : decode cL_law 477 = .ok (.istore 6, 2) := by decide +kernel
theorem dL_law_479 : decode cL_law 479 = .ok (.aload_n 2, 1) := by decide +kernel
theorem dL_law_480 : decode cL_law 480 = .ok (.invokevirtual 51, 3) := by decide +kernel
theorem dL_law_483 : decode cL_law 483 = .ok (.iload 5, 2) := by decide +kernel
theorem dL_law_485 : decode cL_law 485 = .ok (.if_icmp .eq 5, 3) := by decide +kernel
theorem dL_law_490 : decode cL_law 490 = .ok (.iload 5, 2) := by decide +kernel
theorem dL_law_492 : decode cL_law 492 = .ok (.ifCond .ne 15, 3) := by decide +kernel
theorem dL_law_495 : decode cL_law 495 = .ok (.aload_n 3, 1) := by decide +kernel
theorem dL_law_496 : decode cL_law 496 = .ok (.iconst 0, 1) := by decide +kernel
theorem dL_law_497 : decode cL_law 497 = .ok (.laload, 1) := by decide +kernel
theorem dL_law_498 : decode cL_law 498 = .ok (.iload 6, 2) := by decide +kernel
theorem dL_law_500 : decode cL_law 500 = .ok (.i2l, 1) := by decide +kernel
theorem dL_law_501 : decode cL_law 501 = .ok (.lcmp, 1) := by decide +kernel
theorem dL_law_502 : decode cL_law 502 = .ok (.ifCond .eq 5, 3) := by decide +kernel
theorem dL_law_507 : decode cL_law 507 = .ok (.goto 191, 3) := by decide +kernel
theorem dL_law_510 : decode cL_law 510 = .ok (.aload_n 1, 1) := by decide +kernel
theorem dL_law_511 : decode cL_law 511 = .ok (.invokevirtual 55, 3) := by decide +kernel
theorem dL_law_514 : decode cL_law 514 = .ok (.aload_n 2, 1) := by decide +kernel
theorem dL_law_515 : decode cL_law 515 = .ok (.invokevirtual 59, 3) := by decide +kernel
theorem dL_law_518 : decode cL_law 518 = .ok (.if_icmp .eq 180, 3) := by decide +kernel
theorem dL_law_523 : decode cL_law 523 = .ok (.aload_n 1, 1) := by decide +kernel
theorem dL_law_524 : decode cL_law 524 = .ok (.aload_n 0, 1) := by decide +kernel
theorem dL_law_525 : decode cL_law 525 = .ok (.iload 4, 2) := by decide +kernel
theorem dL_law_527 : decode cL_law 527 = .ok (.iconst 1, 1) := by decide +kernel
theorem dL_law_528 : decode cL_law 528 = .ok (.iadd, 1) := by decide +kernel
theorem dL_law_529 : decode cL_law 529 = .ok (.iaload, 1) := by decide +kernel
theorem dL_law_530 : decode cL_law 530 = .ok (.invokevirtual 60, 3) := by decide +kernel
theorem dL_law_533 : decode cL_law 533 = .ok (.aload_n 2, 1) := by decide +kernel
theorem dL_law_534 : decode cL_law 534 = .ok (.aload_n 0, 1) := by decide +kernel
theorem dL_law_535 : decode cL_law 535 = .ok (.iload 4, 2) := by decide +kernel
theorem dL_law_537 : decode cL_law 537 = .ok (.iconst 1, 1) := by decide +kernel
theorem dL_law_538 : decode cL_law 538 = .ok (.iadd, 1) := by decide +kernel
theorem dL_law_539 : decode cL_law 539 = .ok (.iaload, 1) := by decide +kernel
theorem dL_law_540 : decode cL_law 540 = .ok (.invokevirtual 63, 3) := by decide +kernel
theorem dL_law_543 : decode cL_law 543 = .ok (.if_icmp .eq 155, 3) := by decide +kernel
theorem dL_law_548 : decode cL_law 548 = .ok (.aload_n 1, 1) := by decide +kernel
theorem dL_law_549 : decode cL_law 549 = .ok (.aload_n 0, 1) := by decide +kernel
theorem dL_law_550 : decode cL_law 550 = .ok (.iload 4, 2) := by decide +kernel
theorem dL_law_552 : decode cL_law 552 = .ok (.iconst 1, 1) := by decide +kernel
theorem dL_law_553 : decode cL_law 553 = .ok (.iadd, 1) := by decide +kernel
theorem dL_law_554 : decode cL_law 554 = .ok (.iaload, 1) := by decide +kernel
theorem dL_law_555 : decode cL_law 555 = .ok (.invokevirtual 64, 3) := by decide +kernel
theorem dL_law_558 : decode cL_law 558 = .ok (.aload_n 2, 1) := by decide +kernel
theorem dL_law_559 : decode cL_law 559 = .ok (.aload_n 0, 1) := by decide +kernel
theorem dL_law_560 : decode cL_law 560 = .ok (.iload 4, 2) := by decide +kernel
theorem dL_law_562 : decode cL_law 562 = .ok (.iconst 1, 1) := by decide +kernel
theorem dL_law_563 : decode cL_law 563 = .ok (.iadd, 1) := by decide +kernel
theorem dL_law_564 : decode cL_law 564 = .ok (.iaload, 1) := by decide +kernel
theorem dL_law_565 : decode cL_law 565 = .ok (.invokevirtual 67, 3) := by decide +kernel
theorem dL_law_568 : decode cL_law 568 = .ok (.if_icmp .eq 130, 3) := by decide +kernel
theorem dL_law_573 : decode cL_law 573 = .ok (.aload_n 1, 1) := by decide +kernel
theorem dL_law_574 : decode cL_law 574 = .ok (.aload_n 0, 1) := by decide +kernel
theorem dL_law_575 : decode cL_law 575 = .ok (.iload 4, 2) := by decide +kernel
theorem dL_law_577 : decode cL_law 577 = .ok (.iconst 1, 1) := by decide +kernel
theorem dL_law_578 : decode cL_law 578 = .ok (.iadd, 1) := by decide +kernel
theorem dL_law_579 : decode cL_law 579 = .ok (.iaload, 1) := by decide +kernel
theorem dL_law_580 : decode cL_law 580 = .ok (.invokevirtual 68, 3) := by decide +kernel
theorem dL_law_583 : decode cL_law 583 = .ok (.aload_n 2, 1) := by decide +kernel
theorem dL_law_584 : decode cL_law 584 = .ok (.aload_n 0, 1) := by decide +kernel
theorem dL_law_585 : decode cL_law 585 = .ok (.iload 4, 2) := by decide +kernel
theorem dL_law_587 : decode cL_law 587 = .ok (.iconst 1, 1) := by decide +kernel
theorem dL_law_588 : decode cL_law 588 = .ok (.iadd, 1) := by decide +kernel
theorem dL_law_589 : decode cL_law 589 = .ok (.iaload, 1) := by decide +kernel
theorem dL_law_590 : decode cL_law 590 = .ok (.invokevirtual 71, 3) := by decide +kernel
theorem dL_law_593 : decode cL_law 593 = .ok (.if_icmp .eq 105, 3) := by decide +kernel
theorem dL_law_598 : decode cL_law 598 = .ok (.aload_n 1, 1) := by decide +kernel
theorem dL_law_599 : decode cL_law 599 = .ok (.aload_n 0, 1) := by decide +kernel
theorem dL_law_600 : decode cL_law 600 = .ok (.iload 4, 2) := by decide +kernel
theorem dL_law_602 : decode cL_law 602 = .ok (.iconst 1, 1) := by decide +kernel
theorem dL_law_603 : decode cL_law 603 = .ok (.iadd, 1) := by decide +kernel
theorem dL_law_604 : decode cL_law 604 = .ok (.iaload, 1) := by decide +kernel
theorem dL_law_605 : decode cL_law 605 = .ok (.aload_n 0, 1) := by decide +kernel
theorem dL_law_606 : decode cL_law 606 = .ok (.iload 4, 2) := by decide +kernel
theorem dL_law_608 : decode cL_law 608 = .ok (.iconst 2, 1) := by decide +kernel
theorem dL_law_609 : decode cL_law 609 = .ok (.iadd, 1) := by decide +kernel
theorem dL_law_610 : decode cL_law 610 = .ok (.iaload, 1) := by decide +kernel
theorem dL_law_611 : decode cL_law 611 = .ok (.aload_n 0, 1) := by decide +kernel
theorem dL_law_612 : decode cL_law 612 = .ok (.iload 4, 2) := by decide +kernel
theorem dL_law_614 : decode cL_law 614 = .ok (.iconst 3, 1) := by decide +kernel
theorem dL_law_615 : decode cL_law 615 = .ok (.iadd, 1) := by decide +kernel
theorem dL_law_616 : decode cL_law 616 = .ok (.iaload, 1) := by decide +kernel
theorem dL_law_617 : decode cL_law 617 = .ok (.invokevirtual 72, 3) := by decide +kernel
theorem dL_law_620 : decode cL_law 620 = .ok (.aload_n 2, 1) := by decide +kernel
theorem dL_law_621 : decode cL_law 621 = .ok (.aload_n 0, 1) := by decide +kernel
theorem dL_law_622 : decode cL_law 622 = .ok (.iload 4, 2) := by decide +kernel
theorem dL_law_624 : decode cL_law 624 = .ok (.iconst 1, 1) := by decide +kernel
theorem dL_law_625 : decode cL_law 625 = .ok (.iadd, 1) := by decide +kernel
theorem dL_law_626 : decode cL_law 626 = .ok (.iaload, 1) := by decide +kernel
theorem dL_law_627 : decode cL_law 627 = .ok (.aload_n 0, 1) := by decide +kernel
theorem dL_law_628 : decode cL_law 628 = .ok (.iload 4, 2) := by decide +kernel
theorem dL_law_630 : decode cL_law 630 = .ok (.iconst 2, 1) := by decide +kernel
theorem dL_law_631 : decode cL_law 631 = .ok (.iadd, 1) := by decide +kernel
theorem dL_law_632 : decode cL_law 632 = .ok (.iaload, 1) := by decide +kernel
theorem dL_law_633 : decode cL_law 633 = .ok (.aload_n 0, 1) := by decide +kernel
theorem dL_law_634 : decode cL_law 634 = .ok (.iload 4, 2) := by decide +kernel
theorem dL_law_636 : decode cL_law 636 = .ok (.iconst 3, 1) := by decide +kernel
theorem dL_law_637 : decode cL_law 637 = .ok (.iadd, 1) := by decide +kernel
theorem dL_law_638 : decode cL_law 638 = .ok (.iaload, 1) := by decide +kernel
theorem dL_law_639 : decode cL_law 639 = .ok (.invokevirtual 76, 3) := by decide +kernel
theorem dL_law_642 : decode cL_law 642 = .ok (.if_icmp .eq 56, 3) := by decide +kernel
theorem dL_law_647 : decode cL_law 647 = .ok (.aload_n 1, 1) := by decide +kernel
theorem dL_law_648 : decode cL_law 648 = .ok (.aload_n 0, 1) := by decide +kernel
theorem dL_law_649 : decode cL_law 649 = .ok (.iload 4, 2) := by decide +kernel
theorem dL_law_651 : decode cL_law 651 = .ok (.iconst 1, 1) := by decide +kernel
theorem dL_law_652 : decode cL_law 652 = .ok (.iadd, 1) := by decide +kernel
theorem dL_law_653 : decode cL_law 653 = .ok (.iaload, 1) := by decide +kernel
theorem dL_law_654 : decode cL_law 654 = .ok (.aload_n 0, 1) := by decide +kernel
theorem dL_law_655 : decode cL_law 655 = .ok (.iload 4, 2) := by decide +kernel
theorem dL_law_657 : decode cL_law 657 = .ok (.iconst 2, 1) := by decide +kernel
theorem dL_law_658 : decode cL_law 658 = .ok (.iadd, 1) := by decide +kernel
theorem dL_law_659 : decode cL_law 659 = .ok (.iaload, 1) := by decide +kernel
theorem dL_law_660 : decode cL_law 660 = .ok (.invokevirtual 77, 3) := by decide +kernel
theorem dL_law_663 : decode cL_law 663 = .ok (.aload_n 2, 1) := by decide +kernel
theorem dL_law_664 : decode cL_law 664 = .ok (.aload_n 0, 1) := by decide +kernel
theorem dL_law_665 : decode cL_law 665 = .ok (.iload 4, 2) := by decide +kernel
theorem dL_law_667 : decode cL_law 667 = .ok (.iconst 1, 1) := by decide +kernel
theorem dL_law_668 : decode cL_law 668 = .ok (.iadd, 1) := by decide +kernel
theorem dL_law_669 : decode cL_law 669 = .ok (.iaload, 1) := by decide +kernel
theorem dL_law_670 : decode cL_law 670 = .ok (.aload_n 0, 1) := by decide +kernel
theorem dL_law_671 : decode cL_law 671 = .ok (.iload 4, 2) := by decide +kernel
theorem dL_law_673 : decode cL_law 673 = .ok (.iconst 2, 1) := by decide +kernel
theorem dL_law_674 : decode cL_law 674 = .ok (.iadd, 1) := by decide +kernel
theorem dL_law_675 : decode cL_law 675 = .ok (.iaload, 1) := by decide +kernel
theorem dL_law_676 : decode cL_law 676 = .ok (.invokevirtual 80, 3) := by decide +kernel
theorem dL_law_679 : decode cL_law 679 = .ok (.if_icmp .eq 19, 3) := by decide +kernel
theorem dL_law_684 : decode cL_law 684 = .ok (.aload_n 1, 1) := by decide +kernel
theorem dL_law_685 : decode cL_law 685 = .ok (.invokevirtual 81, 3) := by decide +kernel
theorem dL_law_688 : decode cL_law 688 = .ok (.aload_n 2, 1) := by decide +kernel
theorem dL_law_689 : decode cL_law 689 = .ok (.invokevirtual 85, 3) := by decide +kernel
theorem dL_law_692 : decode cL_law 692 = .ok (.lcmp, 1) := by decide +kernel
theorem dL_law_693 : decode cL_law 693 = .ok (.ifCond .eq 5, 3) := by decide +kernel
theorem dL_law_698 : decode cL_law 698 = .ok (.iinc 4 7, 3) := by decide +kernel
theorem dL_law_701 : decode cL_law 701 = .ok (.goto (-678), 3) := by decide +kernel
theorem dL_law_704 : decode cL_law 704 = .ok (.iconst 1, 1) := by decide +kernel
theorem dL_law_705 : decode cL_law 705 = .ok (.ireturn, 1) := by decide +kernel
