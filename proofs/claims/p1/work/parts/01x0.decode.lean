theorem dX0_init_0 : decode cX0_init 0 = .ok (.aload_n 0, 1) := by decide +kernel
theorem dX0_init_1 : decode cX0_init 1 = .ok (.invokespecial 3, 3) := by decide +kernel
theorem dX0_init_4 : decode cX0_init 4 = .ok (.aload_n 0, 1) := by decide +kernel
theorem dX0_init_5 : decode cX0_init 5 = .ok (.bipush 11, 2) := by decide +kernel
theorem dX0_init_7 : decode cX0_init 7 = .ok (.newarray .int, 2) := by decide +kernel
theorem dX0_init_9 : decode cX0_init 9 = .ok (.putfield 9, 3) := by decide +kernel
theorem dX0_init_12 : decode cX0_init 12 = .ok (.aload_n 0, 1) := by decide +kernel
theorem dX0_init_13 : decode cX0_init 13 = .ok (.iconst 0, 1) := by decide +kernel
theorem dX0_init_14 : decode cX0_init 14 = .ok (.putfield 15, 3) := by decide +kernel
theorem dX0_init_17 : decode cX0_init 17 = .ok (.aload_n 0, 1) := by decide +kernel
theorem dX0_init_18 : decode cX0_init 18 = .ok (.iconst 0, 1) := by decide +kernel
theorem dX0_init_19 : decode cX0_init 19 = .ok (.newarray .long, 2) := by decide +kernel
theorem dX0_init_21 : decode cX0_init 21 = .ok (.putfield 19, 3) := by decide +kernel
theorem dX0_init_24 : decode cX0_init 24 = .ok (.aload_n 0, 1) := by decide +kernel
theorem dX0_init_25 : decode cX0_init 25 = .ok (.iconst 0, 1) := by decide +kernel
theorem dX0_init_26 : decode cX0_init 26 = .ok (.putfield 23, 3) := by decide +kernel
theorem dX0_init_29 : decode cX0_init 29 = .ok (.aload_n 0, 1) := by decide +kernel
theorem dX0_init_30 : decode cX0_init 30 = .ok (.lconst 0, 1) := by decide +kernel
theorem dX0_init_31 : decode cX0_init 31 = .ok (.putfield 26, 3) := by decide +kernel
theorem dX0_init_34 : decode cX0_init 34 = .ok (.return_, 1) := by decide +kernel
theorem dX0_fill_0 : decode cX0_fill 0 = .ok (.aload_n 1, 1) := by decide +kernel
theorem dX0_fill_1 : decode cX0_fill 1 = .ok (.getfield 30, 3) := by decide +kernel
theorem dX0_fill_4 : decode cX0_fill 4 = .ok (.iload_n 3, 1) := by decide +kernel
theorem dX0_fill_5 : decode cX0_fill 5 = .ok (.isub, 1) := by decide +kernel
theorem dX0_fill_6 : decode cX0_fill 6 = .ok (.bipush 11, 2) := by decide +kernel
theorem dX0_fill_8 : decode cX0_fill 8 = .ok (.if_icmp .le 5, 3) := by decide +kernel
theorem dX0_fill_11 : decode cX0_fill 11 = .ok (.iconst 0, 1) := by decide +kernel
theorem dX0_fill_12 : decode cX0_fill 12 = .ok (.ireturn, 1) := by decide +kernel
theorem dX0_fill_13 : decode cX0_fill 13 = .ok (.aload_n 0, 1) := by decide +kernel
theorem dX0_fill_14 : decode cX0_fill 14 = .ok (.aload_n 1, 1) := by decide +kernel
theorem dX0_fill_15 : decode cX0_fill 15 = .ok (.aload_n 2, 1) := by decide +kernel
theorem dX0_fill_16 : decode cX0_fill 16 = .ok (.iload_n 3, 1) := by decide +kernel
theorem dX0_fill_17 : decode cX0_fill 17 = .ok (.invokevirtual 35, 3) := by decide +kernel
theorem dX0_fill_20 : decode cX0_fill 20 = .ok (.aload_n 0, 1) := by decide +kernel
theorem dX0_fill_21 : decode cX0_fill 21 = .ok (.getfield 26, 3) := by decide +kernel
theorem dX0_fill_24 : decode cX0_fill 24 = .ok (.ldc2_w 39, 3) := by decide +kernel
theorem dX0_fill_27 : decode cX0_fill 27 = .ok (.lcmp, 1) := by decide +kernel
theorem dX0_fill_28 : decode cX0_fill 28 = .ok (.ifCond .ne 5, 3) := by decide +kernel
theorem dX0_fill_31 : decode cX0_fill 31 = .ok (.iconst 0, 1) := by decide +kernel
theorem dX0_fill_32 : decode cX0_fill 32 = .ok (.ireturn, 1) := by decide +kernel
theorem dX0_fill_33 : decode cX0_fill 33 = .ok (.aload_n 0, 1) := by decide +kernel
theorem dX0_fill_34 : decode cX0_fill 34 = .ok (.aload_n 1, 1) := by decide +kernel
theorem dX0_fill_35 : decode cX0_fill 35 = .ok (.aload_n 2, 1) := by decide +kernel
theorem dX0_fill_36 : decode cX0_fill 36 = .ok (.iload_n 3, 1) := by decide +kernel
theorem dX0_fill_37 : decode cX0_fill 37 = .ok (.invokevirtual 41, 3) := by decide +kernel
theorem dX0_fill_40 : decode cX0_fill 40 = .ok (.aload_n 0, 1) := by decide +kernel
theorem dX0_fill_41 : decode cX0_fill 41 = .ok (.aload_n 1, 1) := by decide +kernel
theorem dX0_fill_42 : decode cX0_fill 42 = .ok (.invokevirtual 44, 3) := by decide +kernel
theorem dX0_fill_45 : decode cX0_fill 45 = .ok (.aload_n 0, 1) := by decide +kernel
theorem dX0_fill_46 : decode cX0_fill 46 = .ok (.aload_n 1, 1) := by decide +kernel
theorem dX0_fill_47 : decode cX0_fill 47 = .ok (.iconst 1, 1) := by decide +kernel
theorem dX0_fill_48 : decode cX0_fill 48 = .ok (.aload_n 0, 1) := by decide +kernel
theorem dX0_fill_49 : decode cX0_fill 49 = .ok (.getfield 15, 3) := by decide +kernel
theorem dX0_fill_52 : decode cX0_fill 52 = .ok (.ishl, 1) := by decide +kernel
theorem dX0_fill_53 : decode cX0_fill 53 = .ok (.iconst 1, 1) := by decide +kernel
theorem dX0_fill_54 : decode cX0_fill 54 = .ok (.isub, 1) := by decide +kernel
theorem dX0_fill_55 : decode cX0_fill 55 = .ok (.iconst 0, 1) := by decide +kernel
theorem dX0_fill_56 : decode cX0_fill 56 = .ok (.invokevirtual 48, 3) := by decide +kernel
theorem dX0_fill_59 : decode cX0_fill 59 = .ok (.lstore 4, 2) := by decide +kernel
theorem dX0_fill_61 : decode cX0_fill 61 = .ok (.lload 4, 2) := by decide +kernel
theorem dX0_fill_63 : decode cX0_fill 63 = .ok (.ldc2_w 39, 3) := by decide +kernel
theorem dX0_fill_66 : decode cX0_fill 66 = .ok (.lcmp, 1) := by decide +kernel
theorem dX0_fill_67 : decode cX0_fill 67 = .ok (.ifCond .ne 5, 3) := by decide +kernel
theorem dX0_fill_70 : decode cX0_fill 70 = .ok (.iconst 0, 1) := by decide +kernel
theorem dX0_fill_71 : decode cX0_fill 71 = .ok (.ireturn, 1) := by decide +kernel
theorem dX0_fill_72 : decode cX0_fill 72 = .ok (.aload_n 0, 1) := by decide +kernel
theorem dX0_fill_73 : decode cX0_fill 73 = .ok (.aload_n 1, 1) := by decide +kernel
theorem dX0_fill_74 : decode cX0_fill 74 = .ok (.aload_n 2, 1) := by decide +kernel
theorem dX0_fill_75 : decode cX0_fill 75 = .ok (.iload_n 3, 1) := by decide +kernel
theorem dX0_fill_76 : decode cX0_fill 76 = .ok (.lload 4, 2) := by decide +kernel
theorem dX0_fill_78 : decode cX0_fill 78 = .ok (.invokevirtual 52, 3) := by decide +kernel
theorem dX0_fill_81 : decode cX0_fill 81 = .ok (.iconst 1, 1) := by decide +kernel
theorem dX0_fill_82 : decode cX0_fill 82 = .ok (.ireturn, 1) := by decide +kernel
theorem dX0_followFrozen_0 : decode cX0_followFrozen 0 = .ok (.aload_n 0, 1) := by decide +kernel
theorem dX0_followFrozen_1 : decode cX0_followFrozen 1 = .ok (.iconst 0, 1) := by decide +kernel
theorem dX0_followFrozen_2 : decode cX0_followFrozen 2 = .ok (.putfield 23, 3) := by decide +kernel
theorem dX0_followFrozen_5 : decode cX0_followFrozen 5 = .ok (.aload_n 0, 1) := by decide +kernel
theorem dX0_followFrozen_6 : decode cX0_followFrozen 6 = .ok (.lconst 0, 1) := by decide +kernel
theorem dX0_followFrozen_7 : decode cX0_followFrozen 7 = .ok (.putfield 26, 3) := by decide +kernel
theorem dX0_followFrozen_10 : decode cX0_followFrozen 10 = .ok (.iconst 0, 1) := by decide +kernel
theorem dX0_followFrozen_11 : decode cX0_followFrozen 11 = .ok (.istore 4, 2) := by decide +kernel
theorem dX0_followFrozen_13 : decode cX0_followFrozen 13 = .ok (.iload 4, 2) := by decide +kernel
theorem dX0_followFrozen_15 : decode cX0_followFrozen 15 = .ok (.iload_n 3, 1) := by decide +kernel
theorem dX0_followFrozen_16 : decode cX0_followFrozen 16 = .ok (.if_icmp .ge 37, 3) := by decide +kernel
theorem dX0_followFrozen_19 : decode cX0_followFrozen 19 = .ok (.aload_n 0, 1) := by decide +kernel
theorem dX0_followFrozen_20 : decode cX0_followFrozen 20 = .ok (.aload_n 1, 1) := by decide +kernel
theorem dX0_followFrozen_21 : decode cX0_followFrozen 21 = .ok (.aload_n 0, 1) := by decide +kernel
theorem dX0_followFrozen_22 : decode cX0_followFrozen 22 = .ok (.getfield 23, 3) := by decide +kernel
theorem dX0_followFrozen_25 : decode cX0_followFrozen 25 = .ok (.aload_n 0, 1) := by decide +kernel
theorem dX0_followFrozen_26 : decode cX0_followFrozen 26 = .ok (.getfield 26, 3) := by decide +kernel
theorem dX0_followFrozen_29 : decode cX0_followFrozen 29 = .ok (.aload_n 2, 1) := by decide +kernel
theorem dX0_followFrozen_30 : decode cX0_followFrozen 30 = .ok (.iload 4, 2) := by decide +kernel
theorem dX0_followFrozen_32 : decode cX0_followFrozen 32 = .ok (.iaload, 1) := by decide +kernel
theorem dX0_followFrozen_33 : decode cX0_followFrozen 33 = .ok (.invokevirtual 56, 3) := by decide +kernel
theorem dX0_followFrozen_36 : decode cX0_followFrozen 36 = .ok (.putfield 26, 3) := by decide +kernel
theorem dX0_followFrozen_39 : decode cX0_followFrozen 39 = .ok (.aload_n 0, 1) := by decide +kernel
theorem dX0_followFrozen_40 : decode cX0_followFrozen 40 = .ok (.aload_n 2, 1) := by decide +kernel
theorem dX0_followFrozen_41 : decode cX0_followFrozen 41 = .ok (.iload 4, 2) := by decide +kernel
theorem dX0_followFrozen_43 : decode cX0_followFrozen 43 = .ok (.iaload, 1) := by decide +kernel
theorem dX0_followFrozen_44 : decode cX0_followFrozen 44 = .ok (.putfield 23, 3) := by decide +kernel
theorem dX0_followFrozen_47 : decode cX0_followFrozen 47 = .ok (.iinc 4 1, 3) := by decide +kernel
theorem dX0_followFrozen_50 : decode cX0_followFrozen 50 = .ok (.goto (-37), 3) := by decide +kernel
theorem dX0_followFrozen_53 : decode cX0_followFrozen 53 = .ok (.return_, 1) := by decide +kernel
theorem dX0_collectFree_0 : decode cX0_collectFree 0 = .ok (.aload_n 0, 1) := by decide +kernel
theorem dX0_collectFree_1 : decode cX0_collectFree 1 = .ok (.iconst 0, 1) := by decide +kernel
theorem dX0_collectFree_2 : decode cX0_collectFree 2 = .ok (.putfield 15, 3) := by decide +kernel
theorem dX0_collectFree_5 : decode cX0_collectFree 5 = .ok (.iconst 1, 1) := by decide +kernel
theorem dX0_collectFree_6 : decode cX0_collectFree 6 = .ok (.istore 4, 2) := by decide +kernel
theorem dX0_collectFree_8 : decode cX0_collectFree 8 = .ok (.iload 4, 2) := by decide +kernel
theorem dX0_collectFree_10 : decode cX0_collectFree 10 = .ok (.aload_n 1, 1) := by decide +kernel
theorem dX0_collectFree_11 : decode cX0_collectFree 11 = .ok (.getfield 30, 3) := by decide +kernel
theorem dX0_collectFree_14 : decode cX0_collectFree 14 = .ok (.if_icmp .gt 49, 3) := by decide +kernel
theorem dX0_collectFree_17 : decode cX0_collectFree 17 = .ok (.aload_n 0, 1) := by decide +kernel
theorem dX0_collectFree_18 : decode cX0_collectFree 18 = .ok (.getfield 15, 3) := by decide +kernel
theorem dX0_collectFree_21 : decode cX0_collectFree 21 = .ok (.bipush 11, 2) := by decide +kernel
theorem dX0_collectFree_23 : decode cX0_collectFree 23 = .ok (.if_icmp .ge 40, 3) := by decide +kernel
theorem dX0_collectFree_26 : decode cX0_collectFree 26 = .ok (.aload_n 2, 1) := by decide +kernel
theorem dX0_collectFree_27 : decode cX0_collectFree 27 = .ok (.iload_n 3, 1) := by decide +kernel
theorem dX0_collectFree_28 : decode cX0_collectFree 28 = .ok (.iload 4, 2) := by decide +kernel
theorem dX0_collectFree_30 : decode cX0_collectFree 30 = .ok (.invokestatic 60, 3) := by decide +kernel
theorem dX0_collectFree_33 : decode cX0_collectFree 33 = .ok (.ifCond .ne 24, 3) := by decide +kernel
theorem dX0_collectFree_36 : decode cX0_collectFree 36 = .ok (.aload_n 0, 1) := by decide +kernel
theorem dX0_collectFree_37 : decode cX0_collectFree 37 = .ok (.getfield 9, 3) := by decide +kernel
theorem dX0_collectFree_40 : decode cX0_collectFree 40 = .ok (.aload_n 0, 1) := by decide +kernel
theorem dX0_collectFree_41 : decode cX0_collectFree 41 = .ok (.getfield 15, 3) := by decide +kernel
theorem dX0_collectFree_44 : decode cX0_collectFree 44 = .ok (.iload 4, 2) := by decide +kernel
theorem dX0_collectFree_46 : decode cX0_collectFree 46 = .ok (.iastore, 1) := by decide +kernel
theorem dX0_collectFree_47 : decode cX0_collectFree 47 = .ok (.aload_n 0, 1) := by decide +kernel
theorem dX0_collectFree_48 : decode cX0_collectFree 48 = .ok (.dup, 1) := by decide +kernel
theorem dX0_collectFree_49 : decode cX0_collectFree 49 = .ok (.getfield 15, 3) := by decide +kernel
theorem dX0_collectFree_52 : decode cX0_collectFree 52 = .ok (.iconst 1, 1) := by decide +kernel
theorem dX0_collectFree_53 : decode cX0_collectFree 53 = .ok (.iadd, 1) := by decide +kernel
theorem dX0_collectFree_54 : decode cX0_collectFree 54 = .ok (.putfield 15, 3) := by decide +kernel
theorem dX0_collectFree_57 : decode cX0_collectFree 57 = .ok (.iinc 4 1, 3) := by decide +kernel
theorem dX0_collectFree_60 : decode cX0_collectFree 60 = .ok (.goto (-52), 3) := by decide +kernel
theorem dX0_collectFree_63 : decode cX0_collectFree 63 = .ok (.return_, 1) := by decide +kernel
theorem dX0_reckonSets_0 : decode cX0_reckonSets 0 = .ok (.iconst 1, 1) := by decide +kernel
theorem dX0_reckonSets_1 : decode cX0_reckonSets 1 = .ok (.aload_n 0, 1) := by decide +kernel
theorem dX0_reckonSets_2 : decode cX0_reckonSets 2 = .ok (.getfield 15, 3) := by decide +kernel
theorem dX0_reckonSets_5 : decode cX0_reckonSets 5 = .ok (.ishl, 1) := by decide +kernel
theorem dX0_reckonSets_6 : decode cX0_reckonSets 6 = .ok (.istore_n 2, 1) := by decide +kernel
theorem dX0_reckonSets_7 : decode cX0_reckonSets 7 = .ok (.aload_n 0, 1) := by decide +kernel
theorem dX0_reckonSets_8 : decode cX0_reckonSets 8 = .ok (.getfield 19, 3) := by decide +kernel
theorem dX0_reckonSets_11 : decode cX0_reckonSets 11 = .ok (.arraylength, 1) := by decide +kernel
theorem dX0_reckonSets_12 : decode cX0_reckonSets 12 = .ok (.iload_n 2, 1) := by decide +kernel
theorem dX0_reckonSets_13 : decode cX0_reckonSets 13 = .ok (.aload_n 0, 1) := by decide +kernel
theorem dX0_reckonSets_14 : decode cX0_reckonSets 14 = .ok (.getfield 15, 3) := by decide +kernel
theorem dX0_reckonSets_17 : decode cX0_reckonSets 17 = .ok (.imul, 1) := by decide +kernel
theorem dX0_reckonSets_18 : decode cX0_reckonSets 18 = .ok (.if_icmp .ge 15, 3) := by decide +kernel
theorem dX0_reckonSets_21 : decode cX0_reckonSets 21 = .ok (.aload_n 0, 1) := by decide +kernel
theorem dX0_reckonSets_22 : decode cX0_reckonSets 22 = .ok (.iload_n 2, 1) := by decide +kernel
theorem dX0_reckonSets_23 : decode cX0_reckonSets 23 = .ok (.aload_n 0, 1) := by decide +kernel
theorem dX0_reckonSets_24 : decode cX0_reckonSets 24 = .ok (.getfield 15, 3) := by decide +kernel
theorem dX0_reckonSets_27 : decode cX0_reckonSets 27 = .ok (.imul, 1) := by decide +kernel
theorem dX0_reckonSets_28 : decode cX0_reckonSets 28 = .ok (.newarray .long, 2) := by decide +kernel
theorem dX0_reckonSets_30 : decode cX0_reckonSets 30 = .ok (.putfield 19, 3) := by decide +kernel
theorem dX0_reckonSets_33 : decode cX0_reckonSets 33 = .ok (.iconst 1, 1) := by decide +kernel
theorem dX0_reckonSets_34 : decode cX0_reckonSets 34 = .ok (.istore_n 3, 1) := by decide +kernel
theorem dX0_reckonSets_35 : decode cX0_reckonSets 35 = .ok (.iload_n 3, 1) := by decide +kernel
theorem dX0_reckonSets_36 : decode cX0_reckonSets 36 = .ok (.iload_n 2, 1) := by decide +kernel
theorem dX0_reckonSets_37 : decode cX0_reckonSets 37 = .ok (.if_icmp .ge 68, 3) := by decide +kernel
theorem dX0_reckonSets_40 : decode cX0_reckonSets 40 = .ok (.iconst 0, 1) := by decide +kernel
theorem dX0_reckonSets_41 : decode cX0_reckonSets 41 = .ok (.istore 4, 2) := by decide +kernel
theorem dX0_reckonSets_43 : decode cX0_reckonSets 43 = .ok (.iload 4, 2) := by decide +kernel
theorem dX0_reckonSets_45 : decode cX0_reckonSets 45 = .ok (.aload_n 0, 1) := by decide +kernel
theorem dX0_reckonSets_46 : decode cX0_reckonSets 46 = .ok (.getfield 15, 3) := by decide +kernel
theorem dX0_reckonSets_49 : decode cX0_reckonSets 49 = .ok (.if_icmp .ge 50, 3) := by decide +kernel
theorem dX0_reckonSets_52 : decode cX0_reckonSets 52 = .ok (.iload_n 3, 1) := by decide +kernel
theorem dX0_reckonSets_53 : decode cX0_reckonSets 53 = .ok (.iload 4, 2) := by decide +kernel
theorem dX0_reckonSets_55 : decode cX0_reckonSets 55 = .ok (.invokestatic 64, 3) := by decide +kernel
theorem dX0_reckonSets_58 : decode cX0_reckonSets 58 = .ok (.ifCond .eq 35, 3) := by decide +kernel
theorem dX0_reckonSets_61 : decode cX0_reckonSets 61 = .ok (.aload_n 0, 1) := by decide +kernel
theorem dX0_reckonSets_62 : decode cX0_reckonSets 62 = .ok (.getfield 19, 3) := by decide +kernel
theorem dX0_reckonSets_65 : decode cX0_reckonSets 65 = .ok (.iload_n 3, 1) := by decide +kernel
theorem dX0_reckonSets_66 : decode cX0_reckonSets 66 = .ok (.aload_n 0, 1) := by decide +kernel
theorem dX0_reckonSets_67 : decode cX0_reckonSets 67 = .ok (.getfield 15, 3) := by decide +kernel
theorem dX0_reckonSets_70 : decode cX0_reckonSets 70 = .ok (.imul, 1) := by decide +kernel
theorem dX0_reckonSets_71 : decode cX0_reckonSets 71 = .ok (.iload 4, 2) := by decide +kernel
theorem dX0_reckonSets_73 : decode cX0_reckonSets 73 = .ok (.iadd, 1) := by decide +kernel
theorem dX0_reckonSets_74 : decode cX0_reckonSets 74 = .ok (.aload_n 0, 1) := by decide +kernel
theorem dX0_reckonSets_75 : decode cX0_reckonSets 75 = .ok (.aload_n 1, 1) := by decide +kernel
theorem dX0_reckonSets_76 : decode cX0_reckonSets 76 = .ok (.iload_n 3, 1) := by decide +kernel
theorem dX0_reckonSets_77 : decode cX0_reckonSets 77 = .ok (.iconst 1, 1) := by decide +kernel
theorem dX0_reckonSets_78 : decode cX0_reckonSets 78 = .ok (.iload 4, 2) := by decide +kernel
theorem dX0_reckonSets_80 : decode cX0_reckonSets 80 = .ok (.ishl, 1) := by decide +kernel
theorem dX0_reckonSets_81 : decode cX0_reckonSets 81 = .ok (.ixor, 1) := by decide +kernel
theorem dX0_reckonSets_82 : decode cX0_reckonSets 82 = .ok (.aload_n 0, 1) := by decide +kernel
theorem dX0_reckonSets_83 : decode cX0_reckonSets 83 = .ok (.getfield 9, 3) := by decide +kernel
theorem dX0_reckonSets_86 : decode cX0_reckonSets 86 = .ok (.iload 4, 2) := by decide +kernel
theorem dX0_reckonSets_88 : decode cX0_reckonSets 88 = .ok (.iaload, 1) := by decide +kernel
theorem dX0_reckonSets_89 : decode cX0_reckonSets 89 = .ok (.invokevirtual 48, 3) := by decide +kernel
theorem dX0_reckonSets_92 : decode cX0_reckonSets 92 = .ok (.lastore, 1) := by decide +kernel
theorem dX0_reckonSets_93 : decode cX0_reckonSets 93 = .ok (.iinc 4 1, 3) := by decide +kernel
theorem dX0_reckonSets_96 : decode cX0_reckonSets 96 = .ok (.goto (-53), 3) := by decide +kernel
theorem dX0_reckonSets_99 : decode cX0_reckonSets 99 = .ok (.iinc 3 1, 3) := by decide +kernel
theorem dX0_reckonSets_102 : decode cX0_reckonSets 102 = .ok (.goto (-67), 3) := by decide +kernel
theorem dX0_reckonSets_105 : decode cX0_reckonSets 105 = .ok (.return_, 1) := by decide +kernel
theorem dX0_has_0 : decode cX0_has 0 = .ok (.iload_n 0, 1) := by decide +kernel
theorem dX0_has_1 : decode cX0_has 1 = .ok (.iload_n 1, 1) := by decide +kernel
theorem dX0_has_2 : decode cX0_has 2 = .ok (.ishr, 1) := by decide +kernel
theorem dX0_has_3 : decode cX0_has 3 = .ok (.iconst 1, 1) := by decide +kernel
theorem dX0_has_4 : decode cX0_has 4 = .ok (.iand, 1) := by decide +kernel
theorem dX0_has_5 : decode cX0_has 5 = .ok (.iconst 1, 1) := by decide +kernel
theorem dX0_has_6 : decode cX0_has 6 = .ok (.if_icmp .ne 7, 3) := by decide +kernel
theorem dX0_has_9 : decode cX0_has 9 = .ok (.iconst 1, 1) := by decide +kernel
theorem dX0_has_10 : decode cX0_has 10 = .ok (.goto 4, 3) := by decide +kernel
theorem dX0_has_13 : decode cX0_has 13 = .ok (.iconst 0, 1) := by decide +kernel
theorem dX0_has_14 : decode cX0_has 14 = .ok (.ireturn, 1) := by decide +kernel
theorem dX0_earliest_0 : decode cX0_earliest 0 = .ok (.iload_n 2, 1) := by decide +kernel
theorem dX0_earliest_1 : decode cX0_earliest 1 = .ok (.ifCond .ne 17, 3) := by decide +kernel
theorem dX0_earliest_4 : decode cX0_earliest 4 = .ok (.aload_n 1, 1) := by decide +kernel
theorem dX0_earliest_5 : decode cX0_earliest 5 = .ok (.aload_n 0, 1) := by decide +kernel
theorem dX0_earliest_6 : decode cX0_earliest 6 = .ok (.getfield 23, 3) := by decide +kernel
theorem dX0_earliest_9 : decode cX0_earliest 9 = .ok (.aload_n 0, 1) := by decide +kernel
theorem dX0_earliest_10 : decode cX0_earliest 10 = .ok (.getfield 26, 3) := by decide +kernel
theorem dX0_earliest_13 : decode cX0_earliest 13 = .ok (.iload_n 3, 1) := by decide +kernel
theorem dX0_earliest_14 : decode cX0_earliest 14 = .ok (.invokevirtual 56, 3) := by decide +kernel
theorem dX0_earliest_17 : decode cX0_earliest 17 = .ok (.lreturn, 1) := by decide +kernel
theorem dX0_earliest_18 : decode cX0_earliest 18 = .ok (.ldc2_w 39, 3) := by decide +kernel
theorem dX0_earliest_21 : decode cX0_earliest 21 = .ok (.lstore 4, 2) := by decide +kernel
theorem dX0_earliest_23 : decode cX0_earliest 23 = .ok (.iconst 0, 1) := by decide +kernel
theorem dX0_earliest_24 : decode cX0_earliest 24 = .ok (.istore 6, 2) := by decide +kernel
theorem dX0_earliest_26 : decode cX0_earliest 26 = .ok (.iload 6, 2) := by decide +kernel
theorem dX0_earliest_28 : decode cX0_earliest 28 = .ok (.aload_n 0, 1) := by decide +kernel
theorem dX0_earliest_29 : decode cX0_earliest 29 = .ok (.getfield 15, 3) := by decide +kernel
theorem dX0_earliest_32 : decode cX0_earliest 32 = .ok (.if_icmp .ge 51, 3) := by decide +kernel
theorem dX0_earliest_35 : decode cX0_earliest 35 = .ok (.iload_n 2, 1) := by decide +kernel
theorem dX0_earliest_36 : decode cX0_earliest 36 = .ok (.iload 6, 2) := by decide +kernel
theorem dX0_earliest_38 : decode cX0_earliest 38 = .ok (.invokestatic 64, 3) := by decide +kernel
theorem dX0_earliest_41 : decode cX0_earliest 41 = .ok (.ifCond .eq 36, 3) := by decide +kernel
theorem dX0_earliest_44 : decode cX0_earliest 44 = .ok (.lload 4, 2) := by decide +kernel
theorem dX0_earliest_46 : decode cX0_earliest 46 = .ok (.aload_n 1, 1) := by decide +kernel
theorem dX0_earliest_47 : decode cX0_earliest 47 = .ok (.aload_n 0, 1) := by decide +kernel
theorem dX0_earliest_48 : decode cX0_earliest 48 = .ok (.getfield 9, 3) := by decide +kernel
theorem dX0_earliest_51 : decode cX0_earliest 51 = .ok (.iload 6, 2) := by decide +kernel
theorem dX0_earliest_53 : decode cX0_earliest 53 = .ok (.iaload, 1) := by decide +kernel
theorem dX0_earliest_54 : decode cX0_earliest 54 = .ok (.aload_n 0, 1) := by decide +kernel
theorem dX0_earliest_55 : decode cX0_earliest 55 = .ok (.getfield 19, 3) := by decide +kernel
theorem dX0_earliest_58 : decode cX0_earliest 58 = .ok (.iload_n 2, 1) := by decide +kernel
theorem dX0_earliest_59 : decode cX0_earliest 59 = .ok (.aload_n 0, 1) := by decide +kernel
theorem dX0_earliest_60 : decode cX0_earliest 60 = .ok (.getfield 15, 3) := by decide +kernel
theorem dX0_earliest_63 : decode cX0_earliest 63 = .ok (.imul, 1) := by decide +kernel
theorem dX0_earliest_64 : decode cX0_earliest 64 = .ok (.iload 6, 2) := by decide +kernel
theorem dX0_earliest_66 : decode cX0_earliest 66 = .ok (.iadd, 1) := by decide +kernel
theorem dX0_earliest_67 : decode cX0_earliest 67 = .ok (.laload, 1) := by decide +kernel
theorem dX0_earliest_68 : decode cX0_earliest 68 = .ok (.iload_n 3, 1) := by decide +kernel
theorem dX0_earliest_69 : decode cX0_earliest 69 = .ok (.invokevirtual 56, 3) := by decide +kernel
theorem dX0_earliest_72 : decode cX0_earliest 72 = .ok (.invokestatic 68, 3) := by decide +kernel
theorem dX0_earliest_75 : decode cX0_earliest 75 = .ok (.lstore 4, 2) := by decide +kernel
theorem dX0_earliest_77 : decode cX0_earliest 77 = .ok (.iinc 6 1, 3) := by decide +kernel
theorem dX0_earliest_80 : decode cX0_earliest 80 = .ok (.goto (-54), 3) := by decide +kernel
theorem dX0_earliest_83 : decode cX0_earliest 83 = .ok (.lload 4, 2) := by decide +kernel
theorem dX0_earliest_85 : decode cX0_earliest 85 = .ok (.lreturn, 1) := by decide +kernel
theorem dX0_readBack_0 : decode cX0_readBack 0 = .ok (.iconst 1, 1) := by decide +kernel
theorem dX0_readBack_1 : decode cX0_readBack 1 = .ok (.aload_n 0, 1) := by decide +kernel
theorem dX0_readBack_2 : decode cX0_readBack 2 = .ok (.getfield 15, 3) := by decide +kernel
theorem dX0_readBack_5 : decode cX0_readBack 5 = .ok (.ishl, 1) := by decide +kernel
theorem dX0_readBack_6 : decode cX0_readBack 6 = .ok (.iconst 1, 1) := by decide +kernel
theorem dX0_readBack_7 : decode cX0_readBack 7 = .ok (.isub, 1) := by decide +kernel
theorem dX0_readBack_8 : decode cX0_readBack 8 = .ok (.istore 6, 2) := by decide +kernel
theorem dX0_readBack_10 : decode cX0_readBack 10 = .ok (.iconst 0, 1) := by decide +kernel
theorem dX0_readBack_11 : decode cX0_readBack 11 = .ok (.istore 7, 2) := by decide +kernel
theorem dX0_readBack_13 : decode cX0_readBack 13 = .ok (.lload 4, 2) := by decide +kernel
theorem dX0_readBack_15 : decode cX0_readBack 15 = .ok (.lstore 8, 2) := by decide +kernel
theorem dX0_readBack_17 : decode cX0_readBack 17 = .ok (.iload_n 3, 1) := by decide +kernel
theorem dX0_readBack_18 : decode cX0_readBack 18 = .ok (.aload_n 0, 1) := by decide +kernel
theorem dX0_readBack_19 : decode cX0_readBack 19 = .ok (.getfield 15, 3) := by decide +kernel
theorem dX0_readBack_22 : decode cX0_readBack 22 = .ok (.iadd, 1) := by decide +kernel
theorem dX0_readBack_23 : decode cX0_readBack 23 = .ok (.iconst 1, 1) := by decide +kernel
theorem dX0_readBack_24 : decode cX0_readBack 24 = .ok (.isub, 1) := by decide +kernel
theorem dX0_readBack_25 : decode cX0_readBack 25 = .ok (.istore 10, 2) := by decide +kernel
theorem dX0_readBack_27 : decode cX0_readBack 27 = .ok (.iload 10, 2) := by decide +kernel
theorem dX0_readBack_29 : decode cX0_readBack 29 = .ok (.iload_n 3, 1) := by decide +kernel
theorem dX0_readBack_30 : decode cX0_readBack 30 = .ok (.if_icmp .lt 68, 3) := by decide +kernel
theorem dX0_readBack_33 : decode cX0_readBack 33 = .ok (.aload_n 0, 1) := by decide +kernel
theorem dX0_readBack_34 : decode cX0_readBack 34 = .ok (.aload_n 1, 1) := by decide +kernel
theorem dX0_readBack_35 : decode cX0_readBack 35 = .ok (.iload 6, 2) := by decide +kernel
theorem dX0_readBack_37 : decode cX0_readBack 37 = .ok (.iload 7, 2) := by decide +kernel
theorem dX0_readBack_39 : decode cX0_readBack 39 = .ok (.lload 8, 2) := by decide +kernel
theorem dX0_readBack_41 : decode cX0_readBack 41 = .ok (.invokevirtual 74, 3) := by decide +kernel
theorem dX0_readBack_44 : decode cX0_readBack 44 = .ok (.istore 11, 2) := by decide +kernel
theorem dX0_readBack_46 : decode cX0_readBack 46 = .ok (.aload_n 2, 1) := by decide +kernel
theorem dX0_readBack_47 : decode cX0_readBack 47 = .ok (.iload 10, 2) := by decide +kernel
theorem dX0_readBack_49 : decode cX0_readBack 49 = .ok (.aload_n 0, 1) := by decide +kernel
theorem dX0_readBack_50 : decode cX0_readBack 50 = .ok (.getfield 9, 3) := by decide +kernel
theorem dX0_readBack_53 : decode cX0_readBack 53 = .ok (.iload 11, 2) := by decide +kernel
theorem dX0_readBack_55 : decode cX0_readBack 55 = .ok (.iaload, 1) := by decide +kernel
theorem dX0_readBack_56 : decode cX0_readBack 56 = .ok (.iastore, 1) := by decide +kernel
theorem dX0_readBack_57 : decode cX0_readBack 57 = .ok (.aload_n 0, 1) := by decide +kernel
theorem dX0_readBack_58 : decode cX0_readBack 58 = .ok (.getfield 9, 3) := by decide +kernel
theorem dX0_readBack_61 : decode cX0_readBack 61 = .ok (.iload 11, 2) := by decide +kernel
theorem dX0_readBack_63 : decode cX0_readBack 63 = .ok (.iaload, 1) := by decide +kernel
theorem dX0_readBack_64 : decode cX0_readBack 64 = .ok (.istore 7, 2) := by decide +kernel
theorem dX0_readBack_66 : decode cX0_readBack 66 = .ok (.aload_n 0, 1) := by decide +kernel
theorem dX0_readBack_67 : decode cX0_readBack 67 = .ok (.getfield 19, 3) := by decide +kernel
theorem dX0_readBack_70 : decode cX0_readBack 70 = .ok (.iload 6, 2) := by decide +kernel
theorem dX0_readBack_72 : decode cX0_readBack 72 = .ok (.aload_n 0, 1) := by decide +kernel
theorem dX0_readBack_73 : decode cX0_readBack 73 = .ok (.getfield 15, 3) := by decide +kernel
theorem dX0_readBack_76 : decode cX0_readBack 76 = .ok (.imul, 1) := by decide +kernel
theorem dX0_readBack_77 : decode cX0_readBack 77 = .ok (.iload 11, 2) := by decide +kernel
theorem dX0_readBack_79 : decode cX0_readBack 79 = .ok (.iadd, 1) := by decide +kernel
theorem dX0_readBack_80 : decode cX0_readBack 80 = .ok (.laload, 1) := by decide +kernel
theorem dX0_readBack_81 : decode cX0_readBack 81 = .ok (.lstore 8, 2) := by decide +kernel
theorem dX0_readBack_83 : decode cX0_readBack 83 = .ok (.iload 6, 2) := by decide +kernel
theorem dX0_readBack_85 : decode cX0_readBack 85 = .ok (.iconst 1, 1) := by decide +kernel
theorem dX0_readBack_86 : decode cX0_readBack 86 = .ok (.iload 11, 2) := by decide +kernel
theorem dX0_readBack_88 : decode cX0_readBack 88 = .ok (.ishl, 1) := by decide +kernel
theorem dX0_readBack_89 : decode cX0_readBack 89 = .ok (.ixor, 1) := by decide +kernel
theorem dX0_readBack_90 : decode cX0_readBack 90 = .ok (.istore 6, 2) := by decide +kernel
theorem dX0_readBack_92 : decode cX0_readBack 92 = .ok (.iinc 10 (-1), 3) := by decide +kernel
theorem dX0_readBack_95 : decode cX0_readBack 95 = .ok (.goto (-68), 3) := by decide +kernel
theorem dX0_readBack_98 : decode cX0_readBack 98 = .ok (.return_, 1) := by decide +kernel
theorem dX0_leastLast_0 : decode cX0_leastLast 0 = .ok (.iconst 0, 1) := by decide +kernel
theorem dX0_leastLast_1 : decode cX0_leastLast 1 = .ok (.istore 6, 2) := by decide +kernel
theorem dX0_leastLast_3 : decode cX0_leastLast 3 = .ok (.iload 6, 2) := by decide +kernel
theorem dX0_leastLast_5 : decode cX0_leastLast 5 = .ok (.aload_n 0, 1) := by decide +kernel
theorem dX0_leastLast_6 : decode cX0_leastLast 6 = .ok (.getfield 15, 3) := by decide +kernel
theorem dX0_leastLast_9 : decode cX0_leastLast 9 = .ok (.iconst 1, 1) := by decide +kernel
theorem dX0_leastLast_10 : decode cX0_leastLast 10 = .ok (.isub, 1) := by decide +kernel
theorem dX0_leastLast_11 : decode cX0_leastLast 11 = .ok (.if_icmp .ge 23, 3) := by decide +kernel
theorem dX0_leastLast_14 : decode cX0_leastLast 14 = .ok (.aload_n 0, 1) := by decide +kernel
theorem dX0_leastLast_15 : decode cX0_leastLast 15 = .ok (.aload_n 1, 1) := by decide +kernel
theorem dX0_leastLast_16 : decode cX0_leastLast 16 = .ok (.iload_n 2, 1) := by decide +kernel
theorem dX0_leastLast_17 : decode cX0_leastLast 17 = .ok (.iload 6, 2) := by decide +kernel
theorem dX0_leastLast_19 : decode cX0_leastLast 19 = .ok (.iload_n 3, 1) := by decide +kernel
theorem dX0_leastLast_20 : decode cX0_leastLast 20 = .ok (.lload 4, 2) := by decide +kernel
theorem dX0_leastLast_22 : decode cX0_leastLast 22 = .ok (.invokevirtual 78, 3) := by decide +kernel
theorem dX0_leastLast_25 : decode cX0_leastLast 25 = .ok (.ifCond .ne 9, 3) := by decide +kernel
theorem dX0_leastLast_28 : decode cX0_leastLast 28 = .ok (.iinc 6 1, 3) := by decide +kernel
theorem dX0_leastLast_31 : decode cX0_leastLast 31 = .ok (.goto (-28), 3) := by decide +kernel
theorem dX0_leastLast_34 : decode cX0_leastLast 34 = .ok (.iload 6, 2) := by decide +kernel
theorem dX0_leastLast_36 : decode cX0_leastLast 36 = .ok (.ireturn, 1) := by decide +kernel
theorem dX0_fits_0 : decode cX0_fits 0 = .ok (.iload_n 2, 1) := by decide +kernel
theorem dX0_fits_1 : decode cX0_fits 1 = .ok (.iload_n 3, 1) := by decide +kernel
theorem dX0_fits_2 : decode cX0_fits 2 = .ok (.invokestatic 64, 3) := by decide +kernel
theorem dX0_fits_5 : decode cX0_fits 5 = .ok (.ifCond .eq 38, 3) := by decide +kernel
theorem dX0_fits_8 : decode cX0_fits 8 = .ok (.aload_n 1, 1) := by decide +kernel
theorem dX0_fits_9 : decode cX0_fits 9 = .ok (.aload_n 0, 1) := by decide +kernel
theorem dX0_fits_10 : decode cX0_fits 10 = .ok (.getfield 9, 3) := by decide +kernel
theorem dX0_fits_13 : decode cX0_fits 13 = .ok (.iload_n 3, 1) := by decide +kernel
theorem dX0_fits_14 : decode cX0_fits 14 = .ok (.iaload, 1) := by decide +kernel
theorem dX0_fits_15 : decode cX0_fits 15 = .ok (.aload_n 0, 1) := by decide +kernel
theorem dX0_fits_16 : decode cX0_fits 16 = .ok (.getfield 19, 3) := by decide +kernel
theorem dX0_fits_19 : decode cX0_fits 19 = .ok (.iload_n 2, 1) := by decide +kernel
theorem dX0_fits_20 : decode cX0_fits 20 = .ok (.aload_n 0, 1) := by decide +kernel
theorem dX0_fits_21 : decode cX0_fits 21 = .ok (.getfield 15, 3) := by decide +kernel
theorem dX0_fits_24 : decode cX0_fits 24 = .ok (.imul, 1) := by decide +kernel
theorem dX0_fits_25 : decode cX0_fits 25 = .ok (.iload_n 3, 1) := by decide +kernel
theorem dX0_fits_26 : decode cX0_fits 26 = .ok (.iadd, 1) := by decide +kernel
theorem dX0_fits_27 : decode cX0_fits 27 = .ok (.laload, 1) := by decide +kernel
theorem dX0_fits_28 : decode cX0_fits 28 = .ok (.iload 4, 2) := by decide +kernel
theorem dX0_fits_30 : decode cX0_fits 30 = .ok (.invokevirtual 56, 3) := by decide +kernel
theorem dX0_fits_33 : decode cX0_fits 33 = .ok (.lload 5, 2) := by decide +kernel
theorem dX0_fits_35 : decode cX0_fits 35 = .ok (.lcmp, 1) := by decide +kernel
theorem dX0_fits_36 : decode cX0_fits 36 = .ok (.ifCond .ne 7, 3) := by decide +kernel
theorem dX0_fits_39 : decode cX0_fits 39 = .ok (.iconst 1, 1) := by decide +kernel
theorem dX0_fits_40 : decode cX0_fits 40 = .ok (.goto 4, 3) := by decide +kernel
theorem dX0_fits_43 : decode cX0_fits 43 = .ok (.iconst 0, 1) := by decide +kernel
theorem dX0_fits_44 : decode cX0_fits 44 = .ok (.ireturn, 1) := by decide +kernel
theorem dX1_init_0 : decode cX1_init 0 = .ok (.aload_n 0, 1) := by decide +kernel
theorem dX1_init_1 : decode cX1_init 1 = .ok (.invokespecial 3, 3) := by decide +kernel
theorem dX1_init_4 : decode cX1_init 4 = .ok (.aload_n 0, 1) := by decide +kernel
theorem dX1_init_5 : decode cX1_init 5 = .ok (.iconst 0, 1) := by decide +kernel
theorem dX1_init_6 : decode cX1_init 6 = .ok (.putfield 9, 3) := by decide +kernel
theorem dX1_init_9 : decode cX1_init 9 = .ok (.aload_n 0, 1) := by decide +kernel
theorem dX1_init_10 : decode cX1_init 10 = .ok (.iconst 0, 1) := by decide +kernel
theorem dX1_init_11 : decode cX1_init 11 = .ok (.putfield 15, 3) := by decide +kernel
theorem dX1_init_14 : decode cX1_init 14 = .ok (.aload_n 0, 1) := by decide +kernel
theorem dX1_init_15 : decode cX1_init 15 = .ok (.bipush 21, 2) := by decide +kernel
theorem dX1_init_17 : decode cX1_init 17 = .ok (.newarray .long, 2) := by decide +kernel
theorem dX1_init_19 : decode cX1_init 19 = .ok (.putfield 18, 3) := by decide +kernel
theorem dX1_init_22 : decode cX1_init 22 = .ok (.aload_n 0, 1) := by decide +kernel
theorem dX1_init_23 : decode cX1_init 23 = .ok (.bipush 21, 2) := by decide +kernel
theorem dX1_init_25 : decode cX1_init 25 = .ok (.newarray .long, 2) := by decide +kernel
theorem dX1_init_27 : decode cX1_init 27 = .ok (.putfield 22, 3) := by decide +kernel
theorem dX1_init_30 : decode cX1_init 30 = .ok (.aload_n 0, 1) := by decide +kernel
theorem dX1_init_31 : decode cX1_init 31 = .ok (.bipush 21, 2) := by decide +kernel
theorem dX1_init_33 : decode cX1_init 33 = .ok (.newarray .long, 2) := by decide +kernel
theorem dX1_init_35 : decode cX1_init 35 = .ok (.putfield 25, 3) := by decide +kernel
theorem dX1_init_38 : decode cX1_init 38 = .ok (.aload_n 0, 1) := by decide +kernel
theorem dX1_init_39 : decode cX1_init 39 = .ok (.bipush 21, 2) := by decide +kernel
theorem dX1_init_41 : decode cX1_init 41 = .ok (.newarray .int, 2) := by decide +kernel
theorem dX1_init_43 : decode cX1_init 43 = .ok (.putfield 28, 3) := by decide +kernel
theorem dX1_init_46 : decode cX1_init 46 = .ok (.aload_n 0, 1) := by decide +kernel
theorem dX1_init_47 : decode cX1_init 47 = .ok (.sipush 441, 3) := by decide +kernel
theorem dX1_init_50 : decode cX1_init 50 = .ok (.newarray .long, 2) := by decide +kernel
theorem dX1_init_52 : decode cX1_init 52 = .ok (.putfield 32, 3) := by decide +kernel
theorem dX1_init_55 : decode cX1_init 55 = .ok (.aload_n 0, 1) := by decide +kernel
theorem dX1_init_56 : decode cX1_init 56 = .ok (.sipush 441, 3) := by decide +kernel
theorem dX1_init_59 : decode cX1_init 59 = .ok (.newarray .boolean, 2) := by decide +kernel
theorem dX1_init_61 : decode cX1_init 61 = .ok (.putfield 35, 3) := by decide +kernel
theorem dX1_init_64 : decode cX1_init 64 = .ok (.iconst 0, 1) := by decide +kernel
theorem dX1_init_65 : decode cX1_init 65 = .ok (.istore_n 1, 1) := by decide +kernel
theorem dX1_init_66 : decode cX1_init 66 = .ok (.iload_n 1, 1) := by decide +kernel
theorem dX1_init_67 : decode cX1_init 67 = .ok (.aload_n 0, 1) := by decide +kernel
theorem dX1_init_68 : decode cX1_init 68 = .ok (.getfield 32, 3) := by decide +kernel
theorem dX1_init_71 : decode cX1_init 71 = .ok (.arraylength, 1) := by decide +kernel
theorem dX1_init_72 : decode cX1_init 72 = .ok (.if_icmp .ge 18, 3) := by decide +kernel
theorem dX1_init_75 : decode cX1_init 75 = .ok (.aload_n 0, 1) := by decide +kernel
theorem dX1_init_76 : decode cX1_init 76 = .ok (.getfield 32, 3) := by decide +kernel
theorem dX1_init_79 : decode cX1_init 79 = .ok (.iload_n 1, 1) := by decide +kernel
theorem dX1_init_80 : decode cX1_init 80 = .ok (.ldc2_w 39, 3) := by decide +kernel
theorem dX1_init_83 : decode cX1_init 83 = .ok (.lastore, 1) := by decide +kernel
theorem dX1_init_84 : decode cX1_init 84 = .ok (.iinc 1 1, 3) := by decide +kernel
theorem dX1_init_87 : decode cX1_init 87 = .ok (.goto (-21), 3) := by decide +kernel
theorem dX1_init_90 : decode cX1_init 90 = .ok (.aload_n 0, 1) := by decide +kernel
theorem dX1_init_91 : decode cX1_init 91 = .ok (.getfield 25, 3) := by decide +kernel
theorem dX1_init_94 : decode cX1_init 94 = .ok (.iconst 0, 1) := by decide +kernel
theorem dX1_init_95 : decode cX1_init 95 = .ok (.ldc2_w 41, 3) := by decide +kernel
theorem dX1_init_98 : decode cX1_init 98 = .ok (.lastore, 1) := by decide +kernel
theorem dX1_init_99 : decode cX1_init 99 = .ok (.return_, 1) := by decide +kernel
theorem dX1_between_0 : decode cX1_between 0 = .ok (.iload_n 0, 1) := by decide +kernel
theorem dX1_between_1 : decode cX1_between 1 = .ok (.bipush 21, 2) := by decide +kernel
theorem dX1_between_3 : decode cX1_between 3 = .ok (.imul, 1) := by decide +kernel
theorem dX1_between_4 : decode cX1_between 4 = .ok (.iload_n 1, 1) := by decide +kernel
theorem dX1_between_5 : decode cX1_between 5 = .ok (.iadd, 1) := by decide +kernel
theorem dX1_between_6 : decode cX1_between 6 = .ok (.ireturn, 1) := by decide +kernel
theorem dX1_holds_0 : decode cX1_holds 0 = .ok (.iconst 0, 1) := by decide +kernel
theorem dX1_holds_1 : decode cX1_holds 1 = .ok (.istore_n 3, 1) := by decide +kernel
theorem dX1_holds_2 : decode cX1_holds 2 = .ok (.iload_n 3, 1) := by decide +kernel
theorem dX1_holds_3 : decode cX1_holds 3 = .ok (.iload_n 1, 1) := by decide +kernel
theorem dX1_holds_4 : decode cX1_holds 4 = .ok (.if_icmp .ge 18, 3) := by decide +kernel
theorem dX1_holds_7 : decode cX1_holds 7 = .ok (.aload_n 0, 1) := by decide +kernel
theorem dX1_holds_8 : decode cX1_holds 8 = .ok (.iload_n 3, 1) := by decide +kernel
theorem dX1_holds_9 : decode cX1_holds 9 = .ok (.iaload, 1) := by decide +kernel
theorem dX1_holds_10 : decode cX1_holds 10 = .ok (.iload_n 2, 1) := by decide +kernel
theorem dX1_holds_11 : decode cX1_holds 11 = .ok (.if_icmp .ne 5, 3) := by decide +kernel
theorem dX1_holds_14 : decode cX1_holds 14 = .ok (.iconst 1, 1) := by decide +kernel
theorem dX1_holds_15 : decode cX1_holds 15 = .ok (.ireturn, 1) := by decide +kernel
theorem dX1_holds_16 : decode cX1_holds 16 = .ok (.iinc 3 1, 3) := by decide +kernel
theorem dX1_holds_19 : decode cX1_holds 19 = .ok (.goto (-17), 3) := by decide +kernel
theorem dX1_holds_22 : decode cX1_holds 22 = .ok (.iconst 0, 1) := by decide +kernel
theorem dX1_holds_23 : decode cX1_holds 23 = .ok (.ireturn, 1) := by decide +kernel
theorem dX1_isStop_0 : decode cX1_isStop 0 = .ok (.iload_n 1, 1) := by decide +kernel
theorem dX1_isStop_1 : decode cX1_isStop 1 = .ok (.ifCond .le 15, 3) := by decide +kernel
theorem dX1_isStop_4 : decode cX1_isStop 4 = .ok (.iload_n 1, 1) := by decide +kernel
theorem dX1_isStop_5 : decode cX1_isStop 5 = .ok (.aload_n 0, 1) := by decide +kernel
theorem dX1_isStop_6 : decode cX1_isStop 6 = .ok (.getfield 9, 3) := by decide +kernel
theorem dX1_isStop_9 : decode cX1_isStop 9 = .ok (.if_icmp .gt 7, 3) := by decide +kernel
theorem dX1_isStop_12 : decode cX1_isStop 12 = .ok (.iconst 1, 1) := by decide +kernel
theorem dX1_isStop_13 : decode cX1_isStop 13 = .ok (.goto 4, 3) := by decide +kernel
theorem dX1_isStop_16 : decode cX1_isStop 16 = .ok (.iconst 0, 1) := by decide +kernel
theorem dX1_isStop_17 : decode cX1_isStop 17 = .ok (.ireturn, 1) := by decide +kernel
theorem dX1_isPoint_0 : decode cX1_isPoint 0 = .ok (.iload_n 1, 1) := by decide +kernel
theorem dX1_isPoint_1 : decode cX1_isPoint 1 = .ok (.ifCond .eq 11, 3) := by decide +kernel
theorem dX1_isPoint_4 : decode cX1_isPoint 4 = .ok (.aload_n 0, 1) := by decide +kernel
theorem dX1_isPoint_5 : decode cX1_isPoint 5 = .ok (.iload_n 1, 1) := by decide +kernel
theorem dX1_isPoint_6 : decode cX1_isPoint 6 = .ok (.invokevirtual 43, 3) := by decide +kernel
theorem dX1_isPoint_9 : decode cX1_isPoint 9 = .ok (.ifCond .eq 7, 3) := by decide +kernel
theorem dX1_isPoint_12 : decode cX1_isPoint 12 = .ok (.iconst 1, 1) := by decide +kernel
theorem dX1_isPoint_13 : decode cX1_isPoint 13 = .ok (.goto 4, 3) := by decide +kernel
theorem dX1_isPoint_16 : decode cX1_isPoint 16 = .ok (.iconst 0, 1) := by decide +kernel
theorem dX1_isPoint_17 : decode cX1_isPoint 17 = .ok (.ireturn, 1) := by decide +kernel
theorem dX1_append_0 : decode cX1_append 0 = .ok (.aload_n 0, 1) := by decide +kernel
theorem dX1_append_1 : decode cX1_append 1 = .ok (.dup, 1) := by decide +kernel
theorem dX1_append_2 : decode cX1_append 2 = .ok (.getfield 9, 3) := by decide +kernel
theorem dX1_append_5 : decode cX1_append 5 = .ok (.iconst 1, 1) := by decide +kernel
theorem dX1_append_6 : decode cX1_append 6 = .ok (.iadd, 1) := by decide +kernel
theorem dX1_append_7 : decode cX1_append 7 = .ok (.putfield 9, 3) := by decide +kernel
theorem dX1_append_10 : decode cX1_append 10 = .ok (.aload_n 0, 1) := by decide +kernel
theorem dX1_append_11 : decode cX1_append 11 = .ok (.getfield 18, 3) := by decide +kernel
theorem dX1_append_14 : decode cX1_append 14 = .ok (.aload_n 0, 1) := by decide +kernel
theorem dX1_append_15 : decode cX1_append 15 = .ok (.getfield 9, 3) := by decide +kernel
theorem dX1_append_18 : decode cX1_append 18 = .ok (.lload_n 1, 1) := by decide +kernel
theorem dX1_append_19 : decode cX1_append 19 = .ok (.lastore, 1) := by decide +kernel
theorem dX1_append_20 : decode cX1_append 20 = .ok (.aload_n 0, 1) := by decide +kernel
theorem dX1_append_21 : decode cX1_append 21 = .ok (.getfield 22, 3) := by decide +kernel
theorem dX1_append_24 : decode cX1_append 24 = .ok (.aload_n 0, 1) := by decide +kernel
theorem dX1_append_25 : decode cX1_append 25 = .ok (.getfield 9, 3) := by decide +kernel
theorem dX1_append_28 : decode cX1_append 28 = .ok (.lload_n 3, 1) := by decide +kernel
theorem dX1_append_29 : decode cX1_append 29 = .ok (.lastore, 1) := by decide +kernel
theorem dX1_append_30 : decode cX1_append 30 = .ok (.aload_n 0, 1) := by decide +kernel
theorem dX1_append_31 : decode cX1_append 31 = .ok (.getfield 25, 3) := by decide +kernel
theorem dX1_append_34 : decode cX1_append 34 = .ok (.aload_n 0, 1) := by decide +kernel
theorem dX1_append_35 : decode cX1_append 35 = .ok (.getfield 9, 3) := by decide +kernel
theorem dX1_append_38 : decode cX1_append 38 = .ok (.lload 5, 2) := by decide +kernel
theorem dX1_append_40 : decode cX1_append 40 = .ok (.lastore, 1) := by decide +kernel
theorem dX1_append_41 : decode cX1_append 41 = .ok (.aload_n 0, 1) := by decide +kernel
theorem dX1_append_42 : decode cX1_append 42 = .ok (.getfield 9, 3) := by decide +kernel
theorem dX1_append_45 : decode cX1_append 45 = .ok (.ireturn, 1) := by decide +kernel
theorem dX1_tellWay_0 : decode cX1_tellWay 0 = .ok (.aload_n 0, 1) := by decide +kernel
theorem dX1_tellWay_1 : decode cX1_tellWay 1 = .ok (.getfield 32, 3) := by decide +kernel
theorem dX1_tellWay_4 : decode cX1_tellWay 4 = .ok (.iload_n 1, 1) := by decide +kernel
theorem dX1_tellWay_5 : decode cX1_tellWay 5 = .ok (.iload_n 2, 1) := by decide +kernel
theorem dX1_tellWay_6 : decode cX1_tellWay 6 = .ok (.invokestatic 47, 3) := by decide +kernel
theorem dX1_tellWay_9 : decode cX1_tellWay 9 = .ok (.lload_n 3, 1) := by decide +kernel
theorem dX1_tellWay_10 : decode cX1_tellWay 10 = .ok (.lastore, 1) := by decide +kernel
theorem dX1_tellWay_11 : decode cX1_tellWay 11 = .ok (.return_, 1) := by decide +kernel
theorem dX1_tellLoad_0 : decode cX1_tellLoad 0 = .ok (.aload_n 0, 1) := by decide +kernel
theorem dX1_tellLoad_1 : decode cX1_tellLoad 1 = .ok (.getfield 28, 3) := by decide +kernel
theorem dX1_tellLoad_4 : decode cX1_tellLoad 4 = .ok (.iload_n 1, 1) := by decide +kernel
theorem dX1_tellLoad_5 : decode cX1_tellLoad 5 = .ok (.iload_n 2, 1) := by decide +kernel
theorem dX1_tellLoad_6 : decode cX1_tellLoad 6 = .ok (.iastore, 1) := by decide +kernel
theorem dX1_tellLoad_7 : decode cX1_tellLoad 7 = .ok (.return_, 1) := by decide +kernel
theorem dX1_loads_0 : decode cX1_loads 0 = .ok (.iconst 0, 1) := by decide +kernel
theorem dX1_loads_1 : decode cX1_loads 1 = .ok (.istore_n 1, 1) := by decide +kernel
theorem dX1_loads_2 : decode cX1_loads 2 = .ok (.iconst 1, 1) := by decide +kernel
theorem dX1_loads_3 : decode cX1_loads 3 = .ok (.istore_n 2, 1) := by decide +kernel
theorem dX1_loads_4 : decode cX1_loads 4 = .ok (.iload_n 2, 1) := by decide +kernel
theorem dX1_loads_5 : decode cX1_loads 5 = .ok (.aload_n 0, 1) := by decide +kernel
theorem dX1_loads_6 : decode cX1_loads 6 = .ok (.getfield 9, 3) := by decide +kernel
theorem dX1_loads_9 : decode cX1_loads 9 = .ok (.if_icmp .gt 18, 3) := by decide +kernel
theorem dX1_loads_12 : decode cX1_loads 12 = .ok (.iload_n 1, 1) := by decide +kernel
theorem dX1_loads_13 : decode cX1_loads 13 = .ok (.aload_n 0, 1) := by decide +kernel
theorem dX1_loads_14 : decode cX1_loads 14 = .ok (.getfield 28, 3) := by decide +kernel
theorem dX1_loads_17 : decode cX1_loads 17 = .ok (.iload_n 2, 1) := by decide +kernel
theorem dX1_loads_18 : decode cX1_loads 18 = .ok (.iaload, 1) := by decide +kernel
theorem dX1_loads_19 : decode cX1_loads 19 = .ok (.iadd, 1) := by decide +kernel
theorem dX1_loads_20 : decode cX1_loads 20 = .ok (.istore_n 1, 1) := by decide +kernel
theorem dX1_loads_21 : decode cX1_loads 21 = .ok (.iinc 2 1, 3) := by decide +kernel
theorem dX1_loads_24 : decode cX1_loads 24 = .ok (.goto (-20), 3) := by decide +kernel
theorem dX1_loads_27 : decode cX1_loads 27 = .ok (.iload_n 1, 1) := by decide +kernel
theorem dX1_loads_28 : decode cX1_loads 28 = .ok (.ireturn, 1) := by decide +kernel
theorem dX1_bar_0 : decode cX1_bar 0 = .ok (.iload_n 1, 1) := by decide +kernel
theorem dX1_bar_1 : decode cX1_bar 1 = .ok (.iload_n 2, 1) := by decide +kernel
theorem dX1_bar_2 : decode cX1_bar 2 = .ok (.invokestatic 47, 3) := by decide +kernel
theorem dX1_bar_5 : decode cX1_bar 5 = .ok (.istore 4, 2) := by decide +kernel
theorem dX1_bar_7 : decode cX1_bar 7 = .ok (.aload_n 0, 1) := by decide +kernel
theorem dX1_bar_8 : decode cX1_bar 8 = .ok (.getfield 35, 3) := by decide +kernel
theorem dX1_bar_11 : decode cX1_bar 11 = .ok (.iload 4, 2) := by decide +kernel
theorem dX1_bar_13 : decode cX1_bar 13 = .ok (.baload, 1) := by decide +kernel
theorem dX1_bar_14 : decode cX1_bar 14 = .ok (.iload_n 3, 1) := by decide +kernel
theorem dX1_bar_15 : decode cX1_bar 15 = .ok (.if_icmp .eq 29, 3) := by decide +kernel
theorem dX1_bar_18 : decode cX1_bar 18 = .ok (.aload_n 0, 1) := by decide +kernel
theorem dX1_bar_19 : decode cX1_bar 19 = .ok (.getfield 35, 3) := by decide +kernel
theorem dX1_bar_22 : decode cX1_bar 22 = .ok (.iload 4, 2) := by decide +kernel
theorem dX1_bar_24 : decode cX1_bar 24 = .ok (.iload_n 3, 1) := by decide +kernel
theorem dX1_bar_25 : decode cX1_bar 25 = .ok (.bastore, 1) := by decide +kernel
theorem dX1_bar_26 : decode cX1_bar 26 = .ok (.aload_n 0, 1) := by decide +kernel
theorem dX1_bar_27 : decode cX1_bar 27 = .ok (.dup, 1) := by decide +kernel
theorem dX1_bar_28 : decode cX1_bar 28 = .ok (.getfield 15, 3) := by decide +kernel
theorem dX1_bar_31 : decode cX1_bar 31 = .ok (.iload_n 3, 1) := by decide +kernel
theorem dX1_bar_32 : decode cX1_bar 32 = .ok (.ifCond .eq 7, 3) := by decide +kernel
theorem dX1_bar_35 : decode cX1_bar 35 = .ok (.iconst 1, 1) := by decide +kernel
theorem dX1_bar_36 : decode cX1_bar 36 = .ok (.goto 4, 3) := by decide +kernel
theorem dX1_bar_39 : decode cX1_bar 39 = .ok (.iconst (-1), 1) := by decide +kernel
theorem dX1_bar_40 : decode cX1_bar 40 = .ok (.iadd, 1) := by decide +kernel
theorem dX1_bar_41 : decode cX1_bar 41 = .ok (.putfield 15, 3) := by decide +kernel
theorem dX1_bar_44 : decode cX1_bar 44 = .ok (.aload_n 0, 1) := by decide +kernel
theorem dX1_bar_45 : decode cX1_bar 45 = .ok (.getfield 15, 3) := by decide +kernel
theorem dX1_bar_48 : decode cX1_bar 48 = .ok (.ireturn, 1) := by decide +kernel
theorem dX1_doneAt_0 : decode cX1_doneAt 0 = .ok (.lload_n 2, 1) := by decide +kernel
theorem dX1_doneAt_1 : decode cX1_doneAt 1 = .ok (.aload_n 0, 1) := by decide +kernel
theorem dX1_doneAt_2 : decode cX1_doneAt 2 = .ok (.getfield 22, 3) := by decide +kernel
theorem dX1_doneAt_5 : decode cX1_doneAt 5 = .ok (.iload_n 1, 1) := by decide +kernel
theorem dX1_doneAt_6 : decode cX1_doneAt 6 = .ok (.laload, 1) := by decide +kernel
theorem dX1_doneAt_7 : decode cX1_doneAt 7 = .ok (.invokestatic 51, 3) := by decide +kernel
theorem dX1_doneAt_10 : decode cX1_doneAt 10 = .ok (.aload_n 0, 1) := by decide +kernel
theorem dX1_doneAt_11 : decode cX1_doneAt 11 = .ok (.getfield 18, 3) := by decide +kernel
theorem dX1_doneAt_14 : decode cX1_doneAt 14 = .ok (.iload_n 1, 1) := by decide +kernel
theorem dX1_doneAt_15 : decode cX1_doneAt 15 = .ok (.laload, 1) := by decide +kernel
theorem dX1_doneAt_16 : decode cX1_doneAt 16 = .ok (.ladd, 1) := by decide +kernel
theorem dX1_doneAt_17 : decode cX1_doneAt 17 = .ok (.lreturn, 1) := by decide +kernel
theorem dX1_goodLeg_0 : decode cX1_goodLeg 0 = .ok (.iload_n 1, 1) := by decide +kernel
theorem dX1_goodLeg_1 : decode cX1_goodLeg 1 = .ok (.iload 4, 2) := by decide +kernel
theorem dX1_goodLeg_3 : decode cX1_goodLeg 3 = .ok (.invokestatic 47, 3) := by decide +kernel
theorem dX1_goodLeg_6 : decode cX1_goodLeg 6 = .ok (.istore 5, 2) := by decide +kernel
theorem dX1_goodLeg_8 : decode cX1_goodLeg 8 = .ok (.lload_n 2, 1) := by decide +kernel
theorem dX1_goodLeg_9 : decode cX1_goodLeg 9 = .ok (.ldc2_w 41, 3) := by decide +kernel
theorem dX1_goodLeg_12 : decode cX1_goodLeg 12 = .ok (.lcmp, 1) := by decide +kernel
theorem dX1_goodLeg_13 : decode cX1_goodLeg 13 = .ok (.ifCond .eq 13, 3) := by decide +kernel
theorem dX1_goodLeg_16 : decode cX1_goodLeg 16 = .ok (.aload_n 0, 1) := by decide +kernel
theorem dX1_goodLeg_17 : decode cX1_goodLeg 17 = .ok (.getfield 35, 3) := by decide +kernel
theorem dX1_goodLeg_20 : decode cX1_goodLeg 20 = .ok (.iload 5, 2) := by decide +kernel
theorem dX1_goodLeg_22 : decode cX1_goodLeg 22 = .ok (.baload, 1) := by decide +kernel
theorem dX1_goodLeg_23 : decode cX1_goodLeg 23 = .ok (.ifCond .eq 7, 3) := by decide +kernel
theorem dX1_goodLeg_26 : decode cX1_goodLeg 26 = .ok (.ldc2_w 41, 3) := by decide +kernel
theorem dX1_goodLeg_29 : decode cX1_goodLeg 29 = .ok (.lreturn, 1) := by decide +kernel
theorem dX1_goodLeg_30 : decode cX1_goodLeg 30 = .ok (.lload_n 2, 1) := by decide +kernel
theorem dX1_goodLeg_31 : decode cX1_goodLeg 31 = .ok (.aload_n 0, 1) := by decide +kernel
theorem dX1_goodLeg_32 : decode cX1_goodLeg 32 = .ok (.getfield 32, 3) := by decide +kernel
theorem dX1_goodLeg_35 : decode cX1_goodLeg 35 = .ok (.iload 5, 2) := by decide +kernel
theorem dX1_goodLeg_37 : decode cX1_goodLeg 37 = .ok (.laload, 1) := by decide +kernel
theorem dX1_goodLeg_38 : decode cX1_goodLeg 38 = .ok (.ladd, 1) := by decide +kernel
theorem dX1_goodLeg_39 : decode cX1_goodLeg 39 = .ok (.lstore 6, 2) := by decide +kernel
theorem dX1_goodLeg_41 : decode cX1_goodLeg 41 = .ok (.lload 6, 2) := by decide +kernel
theorem dX1_goodLeg_43 : decode cX1_goodLeg 43 = .ok (.aload_n 0, 1) := by decide +kernel
theorem dX1_goodLeg_44 : decode cX1_goodLeg 44 = .ok (.getfield 25, 3) := by decide +kernel
theorem dX1_goodLeg_47 : decode cX1_goodLeg 47 = .ok (.iload 4, 2) := by decide +kernel
theorem dX1_goodLeg_49 : decode cX1_goodLeg 49 = .ok (.laload, 1) := by decide +kernel
theorem dX1_goodLeg_50 : decode cX1_goodLeg 50 = .ok (.lcmp, 1) := by decide +kernel
theorem dX1_goodLeg_51 : decode cX1_goodLeg 51 = .ok (.ifCond .le 9, 3) := by decide +kernel
theorem dX1_goodLeg_54 : decode cX1_goodLeg 54 = .ok (.ldc2_w 41, 3) := by decide +kernel
theorem dX1_goodLeg_57 : decode cX1_goodLeg 57 = .ok (.goto 11, 3) := by decide +kernel
theorem dX1_goodLeg_60 : decode cX1_goodLeg 60 = .ok (.aload_n 0, 1) := by decide +kernel
theorem dX1_goodLeg_61 : decode cX1_goodLeg 61 = .ok (.iload 4, 2) := by decide +kernel
theorem dX1_goodLeg_63 : decode cX1_goodLeg 63 = .ok (.lload 6, 2) := by decide +kernel
theorem dX1_goodLeg_65 : decode cX1_goodLeg 65 = .ok (.invokevirtual 57, 3) := by decide +kernel
theorem dX1_goodLeg_68 : decode cX1_goodLeg 68 = .ok (.lreturn, 1) := by decide +kernel
theorem dX1_cost_0 : decode cX1_cost 0 = .ok (.iload_n 2, 1) := by decide +kernel
theorem dX1_cost_1 : decode cX1_cost 1 = .ok (.ifCond .ne 5, 3) := by decide +kernel
theorem dX1_cost_4 : decode cX1_cost 4 = .ok (.lconst 0, 1) := by decide +kernel
theorem dX1_cost_5 : decode cX1_cost 5 = .ok (.lreturn, 1) := by decide +kernel
theorem dX1_cost_6 : decode cX1_cost 6 = .ok (.lconst 0, 1) := by decide +kernel
theorem dX1_cost_7 : decode cX1_cost 7 = .ok (.lstore_n 3, 1) := by decide +kernel
theorem dX1_cost_8 : decode cX1_cost 8 = .ok (.lconst 0, 1) := by decide +kernel
theorem dX1_cost_9 : decode cX1_cost 9 = .ok (.lstore 5, 2) := by decide +kernel
theorem dX1_cost_11 : decode cX1_cost 11 = .ok (.iconst 0, 1) := by decide +kernel
theorem dX1_cost_12 : decode cX1_cost 12 = .ok (.istore 7, 2) := by decide +kernel
theorem dX1_cost_14 : decode cX1_cost 14 = .ok (.iconst 0, 1) := by decide +kernel
theorem dX1_cost_15 : decode cX1_cost 15 = .ok (.istore 8, 2) := by decide +kernel
theorem dX1_cost_17 : decode cX1_cost 17 = .ok (.iload 8, 2) := by decide +kernel
theorem dX1_cost_19 : decode cX1_cost 19 = .ok (.iload_n 2, 1) := by decide +kernel
theorem dX1_cost_20 : decode cX1_cost 20 = .ok (.if_icmp .ge 89, 3) := by decide +kernel
theorem dX1_cost_23 : decode cX1_cost 23 = .ok (.aload_n 1, 1) := by decide +kernel
theorem dX1_cost_24 : decode cX1_cost 24 = .ok (.iload 8, 2) := by decide +kernel
theorem dX1_cost_26 : decode cX1_cost 26 = .ok (.iaload, 1) := by decide +kernel
theorem dX1_cost_27 : decode cX1_cost 27 = .ok (.istore 9, 2) := by decide +kernel
theorem dX1_cost_29 : decode cX1_cost 29 = .ok (.iload 7, 2) := by decide +kernel
theorem dX1_cost_31 : decode cX1_cost 31 = .ok (.iload 9, 2) := by decide +kernel
theorem dX1_cost_33 : decode cX1_cost 33 = .ok (.invokestatic 47, 3) := by decide +kernel
theorem dX1_cost_36 : decode cX1_cost 36 = .ok (.istore 10, 2) := by decide +kernel
theorem dX1_cost_38 : decode cX1_cost 38 = .ok (.lload 5, 2) := by decide +kernel
theorem dX1_cost_40 : decode cX1_cost 40 = .ok (.aload_n 0, 1) := by decide +kernel
theorem dX1_cost_41 : decode cX1_cost 41 = .ok (.getfield 32, 3) := by decide +kernel
theorem dX1_cost_44 : decode cX1_cost 44 = .ok (.iload 10, 2) := by decide +kernel
theorem dX1_cost_46 : decode cX1_cost 46 = .ok (.laload, 1) := by decide +kernel
theorem dX1_cost_47 : decode cX1_cost 47 = .ok (.ladd, 1) := by decide +kernel
theorem dX1_cost_48 : decode cX1_cost 48 = .ok (.lstore 5, 2) := by decide +kernel
theorem dX1_cost_50 : decode cX1_cost 50 = .ok (.lload_n 3, 1) := by decide +kernel
theorem dX1_cost_51 : decode cX1_cost 51 = .ok (.aload_n 0, 1) := by decide +kernel
theorem dX1_cost_52 : decode cX1_cost 52 = .ok (.getfield 35, 3) := by decide +kernel
theorem dX1_cost_55 : decode cX1_cost 55 = .ok (.iload 10, 2) := by decide +kernel
theorem dX1_cost_57 : decode cX1_cost 57 = .ok (.baload, 1) := by decide +kernel
theorem dX1_cost_58 : decode cX1_cost 58 = .ok (.ifCond .eq 7, 3) := by decide +kernel
theorem dX1_cost_61 : decode cX1_cost 61 = .ok (.lconst 1, 1) := by decide +kernel
theorem dX1_cost_62 : decode cX1_cost 62 = .ok (.goto 4, 3) := by decide +kernel
theorem dX1_cost_65 : decode cX1_cost 65 = .ok (.lconst 0, 1) := by decide +kernel
theorem dX1_cost_66 : decode cX1_cost 66 = .ok (.ladd, 1) := by decide +kernel
theorem dX1_cost_67 : decode cX1_cost 67 = .ok (.lstore_n 3, 1) := by decide +kernel
theorem dX1_cost_68 : decode cX1_cost 68 = .ok (.lload_n 3, 1) := by decide +kernel
theorem dX1_cost_69 : decode cX1_cost 69 = .ok (.lload 5, 2) := by decide +kernel
theorem dX1_cost_71 : decode cX1_cost 71 = .ok (.aload_n 0, 1) := by decide +kernel
theorem dX1_cost_72 : decode cX1_cost 72 = .ok (.getfield 25, 3) := by decide +kernel
theorem dX1_cost_75 : decode cX1_cost 75 = .ok (.iload 9, 2) := by decide +kernel
theorem dX1_cost_77 : decode cX1_cost 77 = .ok (.laload, 1) := by decide +kernel
theorem dX1_cost_78 : decode cX1_cost 78 = .ok (.lcmp, 1) := by decide +kernel
theorem dX1_cost_79 : decode cX1_cost 79 = .ok (.ifCond .le 7, 3) := by decide +kernel
theorem dX1_cost_82 : decode cX1_cost 82 = .ok (.lconst 1, 1) := by decide +kernel
theorem dX1_cost_83 : decode cX1_cost 83 = .ok (.goto 4, 3) := by decide +kernel
theorem dX1_cost_86 : decode cX1_cost 86 = .ok (.lconst 0, 1) := by decide +kernel
theorem dX1_cost_87 : decode cX1_cost 87 = .ok (.ladd, 1) := by decide +kernel
theorem dX1_cost_88 : decode cX1_cost 88 = .ok (.lstore_n 3, 1) := by decide +kernel
theorem dX1_cost_89 : decode cX1_cost 89 = .ok (.aload_n 0, 1) := by decide +kernel
theorem dX1_cost_90 : decode cX1_cost 90 = .ok (.iload 9, 2) := by decide +kernel
theorem dX1_cost_92 : decode cX1_cost 92 = .ok (.lload 5, 2) := by decide +kernel
theorem dX1_cost_94 : decode cX1_cost 94 = .ok (.invokevirtual 57, 3) := by decide +kernel
theorem dX1_cost_97 : decode cX1_cost 97 = .ok (.lstore 5, 2) := by decide +kernel
theorem dX1_cost_99 : decode cX1_cost 99 = .ok (.iload 9, 2) := by decide +kernel
theorem dX1_cost_101 : decode cX1_cost 101 = .ok (.istore 7, 2) := by decide +kernel
theorem dX1_cost_103 : decode cX1_cost 103 = .ok (.iinc 8 1, 3) := by decide +kernel
theorem dX1_cost_106 : decode cX1_cost 106 = .ok (.goto (-89), 3) := by decide +kernel
theorem dX1_cost_109 : decode cX1_cost 109 = .ok (.iload 7, 2) := by decide +kernel
theorem dX1_cost_111 : decode cX1_cost 111 = .ok (.iconst 0, 1) := by decide +kernel
theorem dX1_cost_112 : decode cX1_cost 112 = .ok (.invokestatic 47, 3) := by decide +kernel
theorem dX1_cost_115 : decode cX1_cost 115 = .ok (.istore 8, 2) := by decide +kernel
theorem dX1_cost_117 : decode cX1_cost 117 = .ok (.lload_n 3, 1) := by decide +kernel
theorem dX1_cost_118 : decode cX1_cost 118 = .ok (.aload_n 0, 1) := by decide +kernel
theorem dX1_cost_119 : decode cX1_cost 119 = .ok (.getfield 35, 3) := by decide +kernel
theorem dX1_cost_122 : decode cX1_cost 122 = .ok (.iload 8, 2) := by decide +kernel
theorem dX1_cost_124 : decode cX1_cost 124 = .ok (.baload, 1) := by decide +kernel
theorem dX1_cost_125 : decode cX1_cost 125 = .ok (.ifCond .eq 7, 3) := by decide +kernel
theorem dX1_cost_128 : decode cX1_cost 128 = .ok (.lconst 1, 1) := by decide +kernel
theorem dX1_cost_129 : decode cX1_cost 129 = .ok (.goto 4, 3) := by decide +kernel
theorem dX1_cost_132 : decode cX1_cost 132 = .ok (.lconst 0, 1) := by decide +kernel
theorem dX1_cost_133 : decode cX1_cost 133 = .ok (.ladd, 1) := by decide +kernel
theorem dX1_cost_134 : decode cX1_cost 134 = .ok (.lstore_n 3, 1) := by decide +kernel
theorem dX1_cost_135 : decode cX1_cost 135 = .ok (.lload_n 3, 1) := by decide +kernel
theorem dX1_cost_136 : decode cX1_cost 136 = .ok (.ldc2_w 61, 3) := by decide +kernel
theorem dX1_cost_139 : decode cX1_cost 139 = .ok (.lmul, 1) := by decide +kernel
theorem dX1_cost_140 : decode cX1_cost 140 = .ok (.lload 5, 2) := by decide +kernel
theorem dX1_cost_142 : decode cX1_cost 142 = .ok (.ladd, 1) := by decide +kernel
theorem dX1_cost_143 : decode cX1_cost 143 = .ok (.aload_n 0, 1) := by decide +kernel
theorem dX1_cost_144 : decode cX1_cost 144 = .ok (.getfield 32, 3) := by decide +kernel
theorem dX1_cost_147 : decode cX1_cost 147 = .ok (.iload 8, 2) := by decide +kernel
theorem dX1_cost_149 : decode cX1_cost 149 = .ok (.laload, 1) := by decide +kernel
theorem dX1_cost_150 : decode cX1_cost 150 = .ok (.ladd, 1) := by decide +kernel
theorem dX1_cost_151 : decode cX1_cost 151 = .ok (.lreturn, 1) := by decide +kernel
theorem dX1_home_0 : decode cX1_home 0 = .ok (.aload_n 0, 1) := by decide +kernel
theorem dX1_home_1 : decode cX1_home 1 = .ok (.aload_n 1, 1) := by decide +kernel
theorem dX1_home_2 : decode cX1_home 2 = .ok (.iload_n 2, 1) := by decide +kernel
theorem dX1_home_3 : decode cX1_home 3 = .ok (.invokevirtual 63, 3) := by decide +kernel
theorem dX1_home_6 : decode cX1_home 6 = .ok (.ldc2_w 61, 3) := by decide +kernel
theorem dX1_home_9 : decode cX1_home 9 = .ok (.lrem, 1) := by decide +kernel
theorem dX1_home_10 : decode cX1_home 10 = .ok (.lreturn, 1) := by decide +kernel
theorem dX1_lateStop_0 : decode cX1_lateStop 0 = .ok (.iconst 0, 1) := by decide +kernel
theorem dX1_lateStop_1 : decode cX1_lateStop 1 = .ok (.istore 4, 2) := by decide +kernel
theorem dX1_lateStop_3 : decode cX1_lateStop 3 = .ok (.lconst 0, 1) := by decide +kernel
theorem dX1_lateStop_4 : decode cX1_lateStop 4 = .ok (.lstore 5, 2) := by decide +kernel
theorem dX1_lateStop_6 : decode cX1_lateStop 6 = .ok (.iconst 0, 1) := by decide +kernel
theorem dX1_lateStop_7 : decode cX1_lateStop 7 = .ok (.istore 7, 2) := by decide +kernel
theorem dX1_lateStop_9 : decode cX1_lateStop 9 = .ok (.iconst 0, 1) := by decide +kernel
theorem dX1_lateStop_10 : decode cX1_lateStop 10 = .ok (.istore 8, 2) := by decide +kernel
theorem dX1_lateStop_12 : decode cX1_lateStop 12 = .ok (.iload 8, 2) := by decide +kernel
theorem dX1_lateStop_14 : decode cX1_lateStop 14 = .ok (.iload_n 2, 1) := by decide +kernel
theorem dX1_lateStop_15 : decode cX1_lateStop 15 = .ok (.if_icmp .ge 71, 3) := by decide +kernel
theorem dX1_lateStop_18 : decode cX1_lateStop 18 = .ok (.aload_n 1, 1) := by decide +kernel
theorem dX1_lateStop_19 : decode cX1_lateStop 19 = .ok (.iload 8, 2) := by decide +kernel
theorem dX1_lateStop_21 : decode cX1_lateStop 21 = .ok (.iaload, 1) := by decide +kernel
theorem dX1_lateStop_22 : decode cX1_lateStop 22 = .ok (.istore 9, 2) := by decide +kernel
theorem dX1_lateStop_24 : decode cX1_lateStop 24 = .ok (.lload 5, 2) := by decide +kernel
theorem dX1_lateStop_26 : decode cX1_lateStop 26 = .ok (.aload_n 0, 1) := by decide +kernel
theorem dX1_lateStop_27 : decode cX1_lateStop 27 = .ok (.getfield 32, 3) := by decide +kernel
theorem dX1_lateStop_30 : decode cX1_lateStop 30 = .ok (.iload 7, 2) := by decide +kernel
theorem dX1_lateStop_32 : decode cX1_lateStop 32 = .ok (.iload 9, 2) := by decide +kernel
theorem dX1_lateStop_34 : decode cX1_lateStop 34 = .ok (.invokestatic 47, 3) := by decide +kernel
theorem dX1_lateStop_37 : decode cX1_lateStop 37 = .ok (.laload, 1) := by decide +kernel
theorem dX1_lateStop_38 : decode cX1_lateStop 38 = .ok (.ladd, 1) := by decide +kernel
theorem dX1_lateStop_39 : decode cX1_lateStop 39 = .ok (.lstore 5, 2) := by decide +kernel
theorem dX1_lateStop_41 : decode cX1_lateStop 41 = .ok (.lload 5, 2) := by decide +kernel
theorem dX1_lateStop_43 : decode cX1_lateStop 43 = .ok (.aload_n 0, 1) := by decide +kernel
theorem dX1_lateStop_44 : decode cX1_lateStop 44 = .ok (.getfield 25, 3) := by decide +kernel
theorem dX1_lateStop_47 : decode cX1_lateStop 47 = .ok (.iload 9, 2) := by decide +kernel
theorem dX1_lateStop_49 : decode cX1_lateStop 49 = .ok (.laload, 1) := by decide +kernel
theorem dX1_lateStop_50 : decode cX1_lateStop 50 = .ok (.lcmp, 1) := by decide +kernel
theorem dX1_lateStop_51 : decode cX1_lateStop 51 = .ok (.ifCond .le 15, 3) := by decide +kernel
theorem dX1_lateStop_54 : decode cX1_lateStop 54 = .ok (.iload 4, 2) := by decide +kernel
theorem dX1_lateStop_56 : decode cX1_lateStop 56 = .ok (.iload_n 3, 1) := by decide +kernel
theorem dX1_lateStop_57 : decode cX1_lateStop 57 = .ok (.if_icmp .ne 6, 3) := by decide +kernel
theorem dX1_lateStop_60 : decode cX1_lateStop 60 = .ok (.iload 9, 2) := by decide +kernel
theorem dX1_lateStop_62 : decode cX1_lateStop 62 = .ok (.ireturn, 1) := by decide +kernel
theorem dX1_lateStop_63 : decode cX1_lateStop 63 = .ok (.iinc 4 1, 3) := by decide +kernel
theorem dX1_lateStop_66 : decode cX1_lateStop 66 = .ok (.aload_n 0, 1) := by decide +kernel
theorem dX1_lateStop_67 : decode cX1_lateStop 67 = .ok (.iload 9, 2) := by decide +kernel
theorem dX1_lateStop_69 : decode cX1_lateStop 69 = .ok (.lload 5, 2) := by decide +kernel
theorem dX1_lateStop_71 : decode cX1_lateStop 71 = .ok (.invokevirtual 57, 3) := by decide +kernel
theorem dX1_lateStop_74 : decode cX1_lateStop 74 = .ok (.lstore 5, 2) := by decide +kernel
theorem dX1_lateStop_76 : decode cX1_lateStop 76 = .ok (.iload 9, 2) := by decide +kernel
theorem dX1_lateStop_78 : decode cX1_lateStop 78 = .ok (.istore 7, 2) := by decide +kernel
theorem dX1_lateStop_80 : decode cX1_lateStop 80 = .ok (.iinc 8 1, 3) := by decide +kernel
theorem dX1_lateStop_83 : decode cX1_lateStop 83 = .ok (.goto (-71), 3) := by decide +kernel
theorem dX1_lateStop_86 : decode cX1_lateStop 86 = .ok (.iconst 0, 1) := by decide +kernel
theorem dX1_lateStop_87 : decode cX1_lateStop 87 = .ok (.ireturn, 1) := by decide +kernel
theorem dX1_leastTime_0 : decode cX1_leastTime 0 = .ok (.aload_n 0, 1) := by decide +kernel
theorem dX1_leastTime_1 : decode cX1_leastTime 1 = .ok (.getfield 9, 3) := by decide +kernel
theorem dX1_leastTime_4 : decode cX1_leastTime 4 = .ok (.ifCond .ne 5, 3) := by decide +kernel
theorem dX1_leastTime_7 : decode cX1_leastTime 7 = .ok (.lconst 0, 1) := by decide +kernel
theorem dX1_leastTime_8 : decode cX1_leastTime 8 = .ok (.lreturn, 1) := by decide +kernel
theorem dX1_leastTime_9 : decode cX1_leastTime 9 = .ok (.lconst 0, 1) := by decide +kernel
theorem dX1_leastTime_10 : decode cX1_leastTime 10 = .ok (.lstore_n 1, 1) := by decide +kernel
theorem dX1_leastTime_11 : decode cX1_leastTime 11 = .ok (.iconst 0, 1) := by decide +kernel
theorem dX1_leastTime_12 : decode cX1_leastTime 12 = .ok (.istore_n 3, 1) := by decide +kernel
theorem dX1_leastTime_13 : decode cX1_leastTime 13 = .ok (.iload_n 3, 1) := by decide +kernel
theorem dX1_leastTime_14 : decode cX1_leastTime 14 = .ok (.aload_n 0, 1) := by decide +kernel
theorem dX1_leastTime_15 : decode cX1_leastTime 15 = .ok (.getfield 9, 3) := by decide +kernel
theorem dX1_leastTime_18 : decode cX1_leastTime 18 = .ok (.if_icmp .gt 41, 3) := by decide +kernel
theorem dX1_leastTime_21 : decode cX1_leastTime 21 = .ok (.aload_n 0, 1) := by decide +kernel
theorem dX1_leastTime_22 : decode cX1_leastTime 22 = .ok (.iload_n 3, 1) := by decide +kernel
theorem dX1_leastTime_23 : decode cX1_leastTime 23 = .ok (.invokevirtual 67, 3) := by decide +kernel
theorem dX1_leastTime_26 : decode cX1_leastTime 26 = .ok (.lstore 4, 2) := by decide +kernel
theorem dX1_leastTime_28 : decode cX1_leastTime 28 = .ok (.lload 4, 2) := by decide +kernel
theorem dX1_leastTime_30 : decode cX1_leastTime 30 = .ok (.ldc2_w 41, 3) := by decide +kernel
theorem dX1_leastTime_33 : decode cX1_leastTime 33 = .ok (.lcmp, 1) := by decide +kernel
theorem dX1_leastTime_34 : decode cX1_leastTime 34 = .ok (.ifCond .ne 7, 3) := by decide +kernel
theorem dX1_leastTime_37 : decode cX1_leastTime 37 = .ok (.ldc2_w 71, 3) := by decide +kernel
theorem dX1_leastTime_40 : decode cX1_leastTime 40 = .ok (.lreturn, 1) := by decide +kernel
theorem dX1_leastTime_41 : decode cX1_leastTime 41 = .ok (.lload_n 1, 1) := by decide +kernel
theorem dX1_leastTime_42 : decode cX1_leastTime 42 = .ok (.aload_n 0, 1) := by decide +kernel
theorem dX1_leastTime_43 : decode cX1_leastTime 43 = .ok (.getfield 18, 3) := by decide +kernel
theorem dX1_leastTime_46 : decode cX1_leastTime 46 = .ok (.iload_n 3, 1) := by decide +kernel
theorem dX1_leastTime_47 : decode cX1_leastTime 47 = .ok (.laload, 1) := by decide +kernel
theorem dX1_leastTime_48 : decode cX1_leastTime 48 = .ok (.lload 4, 2) := by decide +kernel
theorem dX1_leastTime_50 : decode cX1_leastTime 50 = .ok (.ladd, 1) := by decide +kernel
theorem dX1_leastTime_51 : decode cX1_leastTime 51 = .ok (.ladd, 1) := by decide +kernel
theorem dX1_leastTime_52 : decode cX1_leastTime 52 = .ok (.lstore_n 1, 1) := by decide +kernel
theorem dX1_leastTime_53 : decode cX1_leastTime 53 = .ok (.iinc 3 1, 3) := by decide +kernel
theorem dX1_leastTime_56 : decode cX1_leastTime 56 = .ok (.goto (-43), 3) := by decide +kernel
theorem dX1_leastTime_59 : decode cX1_leastTime 59 = .ok (.lload_n 1, 1) := by decide +kernel
theorem dX1_leastTime_60 : decode cX1_leastTime 60 = .ok (.lreturn, 1) := by decide +kernel
theorem dX1_leastWayTo_0 : decode cX1_leastWayTo 0 = .ok (.ldc2_w 41, 3) := by decide +kernel
theorem dX1_leastWayTo_3 : decode cX1_leastWayTo 3 = .ok (.lstore_n 2, 1) := by decide +kernel
theorem dX1_leastWayTo_4 : decode cX1_leastWayTo 4 = .ok (.iconst 0, 1) := by decide +kernel
theorem dX1_leastWayTo_5 : decode cX1_leastWayTo 5 = .ok (.istore 4, 2) := by decide +kernel
theorem dX1_leastWayTo_7 : decode cX1_leastWayTo 7 = .ok (.iload 4, 2) := by decide +kernel
theorem dX1_leastWayTo_9 : decode cX1_leastWayTo 9 = .ok (.aload_n 0, 1) := by decide +kernel
theorem dX1_leastWayTo_10 : decode cX1_leastWayTo 10 = .ok (.getfield 9, 3) := by decide +kernel
theorem dX1_leastWayTo_13 : decode cX1_leastWayTo 13 = .ok (.if_icmp .gt 45, 3) := by decide +kernel
theorem dX1_leastWayTo_16 : decode cX1_leastWayTo 16 = .ok (.iload 4, 2) := by decide +kernel
theorem dX1_leastWayTo_18 : decode cX1_leastWayTo 18 = .ok (.iload_n 1, 1) := by decide +kernel
theorem dX1_leastWayTo_19 : decode cX1_leastWayTo 19 = .ok (.invokestatic 47, 3) := by decide +kernel
theorem dX1_leastWayTo_22 : decode cX1_leastWayTo 22 = .ok (.istore 5, 2) := by decide +kernel
theorem dX1_leastWayTo_24 : decode cX1_leastWayTo 24 = .ok (.iload 4, 2) := by decide +kernel
theorem dX1_leastWayTo_26 : decode cX1_leastWayTo 26 = .ok (.iload_n 1, 1) := by decide +kernel
theorem dX1_leastWayTo_27 : decode cX1_leastWayTo 27 = .ok (.if_icmp .eq 25, 3) := by decide +kernel
theorem dX1_leastWayTo_30 : decode cX1_leastWayTo 30 = .ok (.aload_n 0, 1) := by decide +kernel
theorem dX1_leastWayTo_31 : decode cX1_leastWayTo 31 = .ok (.getfield 35, 3) := by decide +kernel
theorem dX1_leastWayTo_34 : decode cX1_leastWayTo 34 = .ok (.iload 5, 2) := by decide +kernel
theorem dX1_leastWayTo_36 : decode cX1_leastWayTo 36 = .ok (.baload, 1) := by decide +kernel
theorem dX1_leastWayTo_37 : decode cX1_leastWayTo 37 = .ok (.ifCond .ne 15, 3) := by decide +kernel
theorem dX1_leastWayTo_40 : decode cX1_leastWayTo 40 = .ok (.lload_n 2, 1) := by decide +kernel
theorem dX1_leastWayTo_41 : decode cX1_leastWayTo 41 = .ok (.aload_n 0, 1) := by decide +kernel
theorem dX1_leastWayTo_42 : decode cX1_leastWayTo 42 = .ok (.getfield 32, 3) := by decide +kernel
theorem dX1_leastWayTo_45 : decode cX1_leastWayTo 45 = .ok (.iload 5, 2) := by decide +kernel
theorem dX1_leastWayTo_47 : decode cX1_leastWayTo 47 = .ok (.laload, 1) := by decide +kernel
theorem dX1_leastWayTo_48 : decode cX1_leastWayTo 48 = .ok (.invokestatic 73, 3) := by decide +kernel
theorem dX1_leastWayTo_51 : decode cX1_leastWayTo 51 = .ok (.lstore_n 2, 1) := by decide +kernel
theorem dX1_leastWayTo_52 : decode cX1_leastWayTo 52 = .ok (.iinc 4 1, 3) := by decide +kernel
theorem dX1_leastWayTo_55 : decode cX1_leastWayTo 55 = .ok (.goto (-48), 3) := by decide +kernel
theorem dX1_leastWayTo_58 : decode cX1_leastWayTo 58 = .ok (.lload_n 2, 1) := by decide +kernel
theorem dX1_leastWayTo_59 : decode cX1_leastWayTo 59 = .ok (.lreturn, 1) := by decide +kernel
theorem dX2_init_0 : decode cX2_init 0 = .ok (.aload_n 0, 1) := by decide +kernel
theorem dX2_init_1 : decode cX2_init 1 = .ok (.invokespecial 1, 3) := by decide +kernel
theorem dX2_init_4 : decode cX2_init 4 = .ok (.aload_n 0, 1) := by decide +kernel
theorem dX2_init_5 : decode cX2_init 5 = .ok (.new 7, 3) := by decide +kernel
theorem dX2_init_8 : decode cX2_init 8 = .ok (.dup, 1) := by decide +kernel
theorem dX2_init_9 : decode cX2_init 9 = .ok (.invokespecial 9, 3) := by decide +kernel
theorem dX2_init_12 : decode cX2_init 12 = .ok (.putfield 10, 3) := by decide +kernel
theorem dX2_init_15 : decode cX2_init 15 = .ok (.aload_n 0, 1) := by decide +kernel
theorem dX2_init_16 : decode cX2_init 16 = .ok (.new 16, 3) := by decide +kernel
theorem dX2_init_19 : decode cX2_init 19 = .ok (.dup, 1) := by decide +kernel
theorem dX2_init_20 : decode cX2_init 20 = .ok (.invokespecial 18, 3) := by decide +kernel
theorem dX2_init_23 : decode cX2_init 23 = .ok (.putfield 19, 3) := by decide +kernel
theorem dX2_init_26 : decode cX2_init 26 = .ok (.aload_n 0, 1) := by decide +kernel
theorem dX2_init_27 : decode cX2_init 27 = .ok (.bipush 20, 2) := by decide +kernel
theorem dX2_init_29 : decode cX2_init 29 = .ok (.newarray .int, 2) := by decide +kernel
theorem dX2_init_31 : decode cX2_init 31 = .ok (.putfield 23, 3) := by decide +kernel
theorem dX2_init_34 : decode cX2_init 34 = .ok (.aload_n 0, 1) := by decide +kernel
theorem dX2_init_35 : decode cX2_init 35 = .ok (.iconst (-1), 1) := by decide +kernel
theorem dX2_init_36 : decode cX2_init 36 = .ok (.putfield 27, 3) := by decide +kernel
theorem dX2_init_39 : decode cX2_init 39 = .ok (.aload_n 0, 1) := by decide +kernel
theorem dX2_init_40 : decode cX2_init 40 = .ok (.iconst 0, 1) := by decide +kernel
theorem dX2_init_41 : decode cX2_init 41 = .ok (.putfield 31, 3) := by decide +kernel
theorem dX2_init_44 : decode cX2_init 44 = .ok (.aload_n 0, 1) := by decide +kernel
theorem dX2_init_45 : decode cX2_init 45 = .ok (.iconst 0, 1) := by decide +kernel
theorem dX2_init_46 : decode cX2_init 46 = .ok (.putfield 34, 3) := by decide +kernel
theorem dX2_init_49 : decode cX2_init 49 = .ok (.aload_n 0, 1) := by decide +kernel
theorem dX2_init_50 : decode cX2_init 50 = .ok (.iconst (-1), 1) := by decide +kernel
theorem dX2_init_51 : decode cX2_init 51 = .ok (.putfield 38, 3) := by decide +kernel
theorem dX2_init_54 : decode cX2_init 54 = .ok (.return_, 1) := by decide +kernel
theorem dX2_stop_0 : decode cX2_stop 0 = .ok (.lload_n 1, 1) := by decide +kernel
theorem dX2_stop_1 : decode cX2_stop 1 = .ok (.invokestatic 41, 3) := by decide +kernel
theorem dX2_stop_4 : decode cX2_stop 4 = .ok (.ifCond .eq 25, 3) := by decide +kernel
theorem dX2_stop_7 : decode cX2_stop 7 = .ok (.lload_n 3, 1) := by decide +kernel
theorem dX2_stop_8 : decode cX2_stop 8 = .ok (.lconst 0, 1) := by decide +kernel
theorem dX2_stop_9 : decode cX2_stop 9 = .ok (.lcmp, 1) := by decide +kernel
theorem dX2_stop_10 : decode cX2_stop 10 = .ok (.ifCond .lt 19, 3) := by decide +kernel
theorem dX2_stop_13 : decode cX2_stop 13 = .ok (.lload_n 3, 1) := by decide +kernel
theorem dX2_stop_14 : decode cX2_stop 14 = .ok (.lload 5, 2) := by decide +kernel
theorem dX2_stop_16 : decode cX2_stop 16 = .ok (.lcmp, 1) := by decide +kernel
theorem dX2_stop_17 : decode cX2_stop 17 = .ok (.ifCond .gt 12, 3) := by decide +kernel
theorem dX2_stop_20 : decode cX2_stop 20 = .ok (.lload 5, 2) := by decide +kernel
theorem dX2_stop_22 : decode cX2_stop 22 = .ok (.ldc2_w 45, 3) := by decide +kernel
theorem dX2_stop_25 : decode cX2_stop 25 = .ok (.lcmp, 1) := by decide +kernel
theorem dX2_stop_26 : decode cX2_stop 26 = .ok (.ifCond .le 6, 3) := by decide +kernel
theorem dX2_stop_29 : decode cX2_stop 29 = .ok (.bipush (-12), 2) := by decide +kernel
theorem dX2_stop_31 : decode cX2_stop 31 = .ok (.ireturn, 1) := by decide +kernel
theorem dX2_stop_32 : decode cX2_stop 32 = .ok (.aload_n 0, 1) := by decide +kernel
theorem dX2_stop_33 : decode cX2_stop 33 = .ok (.getfield 10, 3) := by decide +kernel
theorem dX2_stop_36 : decode cX2_stop 36 = .ok (.getfield 47, 3) := by decide +kernel
theorem dX2_stop_39 : decode cX2_stop 39 = .ok (.bipush 20, 2) := by decide +kernel
theorem dX2_stop_41 : decode cX2_stop 41 = .ok (.if_icmp .lt 6, 3) := by decide +kernel
theorem dX2_stop_44 : decode cX2_stop 44 = .ok (.bipush (-14), 2) := by decide +kernel
theorem dX2_stop_46 : decode cX2_stop 46 = .ok (.ireturn, 1) := by decide +kernel
theorem dX2_stop_47 : decode cX2_stop 47 = .ok (.aload_n 0, 1) := by decide +kernel
theorem dX2_stop_48 : decode cX2_stop 48 = .ok (.iconst (-1), 1) := by decide +kernel
theorem dX2_stop_49 : decode cX2_stop 49 = .ok (.putfield 27, 3) := by decide +kernel
theorem dX2_stop_52 : decode cX2_stop 52 = .ok (.aload_n 0, 1) := by decide +kernel
theorem dX2_stop_53 : decode cX2_stop 53 = .ok (.iconst 0, 1) := by decide +kernel
theorem dX2_stop_54 : decode cX2_stop 54 = .ok (.putfield 34, 3) := by decide +kernel
theorem dX2_stop_57 : decode cX2_stop 57 = .ok (.aload_n 0, 1) := by decide +kernel
theorem dX2_stop_58 : decode cX2_stop 58 = .ok (.getfield 10, 3) := by decide +kernel
theorem dX2_stop_61 : decode cX2_stop 61 = .ok (.lload_n 1, 1) := by decide +kernel
theorem dX2_stop_62 : decode cX2_stop 62 = .ok (.lload_n 3, 1) := by decide +kernel
theorem dX2_stop_63 : decode cX2_stop 63 = .ok (.lload 5, 2) := by decide +kernel
theorem dX2_stop_65 : decode cX2_stop 65 = .ok (.invokevirtual 50, 3) := by decide +kernel
theorem dX2_stop_68 : decode cX2_stop 68 = .ok (.ireturn, 1) := by decide +kernel
theorem dX2_way_0 : decode cX2_way 0 = .ok (.aload_n 0, 1) := by decide +kernel
theorem dX2_way_1 : decode cX2_way 1 = .ok (.getfield 10, 3) := by decide +kernel
theorem dX2_way_4 : decode cX2_way 4 = .ok (.iload_n 1, 1) := by decide +kernel
theorem dX2_way_5 : decode cX2_way 5 = .ok (.invokevirtual 54, 3) := by decide +kernel
theorem dX2_way_8 : decode cX2_way 8 = .ok (.ifCond .eq 26, 3) := by decide +kernel
theorem dX2_way_11 : decode cX2_way 11 = .ok (.aload_n 0, 1) := by decide +kernel
theorem dX2_way_12 : decode cX2_way 12 = .ok (.getfield 10, 3) := by decide +kernel
theorem dX2_way_15 : decode cX2_way 15 = .ok (.iload_n 2, 1) := by decide +kernel
theorem dX2_way_16 : decode cX2_way 16 = .ok (.invokevirtual 54, 3) := by decide +kernel
theorem dX2_way_19 : decode cX2_way 19 = .ok (.ifCond .eq 15, 3) := by decide +kernel
theorem dX2_way_22 : decode cX2_way 22 = .ok (.iload_n 1, 1) := by decide +kernel
theorem dX2_way_23 : decode cX2_way 23 = .ok (.iload_n 2, 1) := by decide +kernel
theorem dX2_way_24 : decode cX2_way 24 = .ok (.if_icmp .eq 10, 3) := by decide +kernel
theorem dX2_way_27 : decode cX2_way 27 = .ok (.lload_n 3, 1) := by decide +kernel
theorem dX2_way_28 : decode cX2_way 28 = .ok (.invokestatic 41, 3) := by decide +kernel
theorem dX2_way_31 : decode cX2_way 31 = .ok (.ifCond .ne 4, 3) := by decide +kernel
theorem dX2_way_34 : decode cX2_way 34 = .ok (.return_, 1) := by decide +kernel
theorem dX2_way_35 : decode cX2_way 35 = .ok (.aload_n 0, 1) := by decide +kernel
theorem dX2_way_36 : decode cX2_way 36 = .ok (.getfield 10, 3) := by decide +kernel
theorem dX2_way_39 : decode cX2_way 39 = .ok (.iload_n 1, 1) := by decide +kernel
theorem dX2_way_40 : decode cX2_way 40 = .ok (.iload_n 2, 1) := by decide +kernel
theorem dX2_way_41 : decode cX2_way 41 = .ok (.lload_n 3, 1) := by decide +kernel
theorem dX2_way_42 : decode cX2_way 42 = .ok (.invokevirtual 58, 3) := by decide +kernel
theorem dX2_way_45 : decode cX2_way 45 = .ok (.aload_n 0, 1) := by decide +kernel
theorem dX2_way_46 : decode cX2_way 46 = .ok (.iconst 0, 1) := by decide +kernel
theorem dX2_way_47 : decode cX2_way 47 = .ok (.putfield 34, 3) := by decide +kernel
theorem dX2_way_50 : decode cX2_way 50 = .ok (.return_, 1) := by decide +kernel
theorem dX2_load_0 : decode cX2_load 0 = .ok (.aload_n 0, 1) := by decide +kernel
theorem dX2_load_1 : decode cX2_load 1 = .ok (.getfield 10, 3) := by decide +kernel
theorem dX2_load_4 : decode cX2_load 4 = .ok (.iload_n 1, 1) := by decide +kernel
theorem dX2_load_5 : decode cX2_load 5 = .ok (.invokevirtual 62, 3) := by decide +kernel
theorem dX2_load_8 : decode cX2_load 8 = .ok (.ifCond .ne 6, 3) := by decide +kernel
theorem dX2_load_11 : decode cX2_load 11 = .ok (.bipush (-11), 2) := by decide +kernel
theorem dX2_load_13 : decode cX2_load 13 = .ok (.ireturn, 1) := by decide +kernel
