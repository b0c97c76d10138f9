theorem dX3_isFrozen_9 : decode cX3_isFrozen 9 = .ok (.if_icmp .ge 29, 3) := by decide +kernel
theorem dX3_isFrozen_12 : decode cX3_isFrozen 12 = .ok (.iload_n 2, 1) := by decide +kernel
theorem dX3_isFrozen_13 : decode cX3_isFrozen 13 = .ok (.ifCond .ne 13, 3) := by decide +kernel
theorem dX3_isFrozen_16 : decode cX3_isFrozen 16 = .ok (.aload_n 0, 1) := by decide +kernel
theorem dX3_isFrozen_17 : decode cX3_isFrozen 17 = .ok (.getfield 37, 3) := by decide +kernel
theorem dX3_isFrozen_20 : decode cX3_isFrozen 20 = .ok (.iload_n 3, 1) := by decide +kernel
theorem dX3_isFrozen_21 : decode cX3_isFrozen 21 = .ok (.iaload, 1) := by decide +kernel
theorem dX3_isFrozen_22 : decode cX3_isFrozen 22 = .ok (.iload_n 1, 1) := by decide +kernel
theorem dX3_isFrozen_23 : decode cX3_isFrozen 23 = .ok (.if_icmp .ne 7, 3) := by decide +kernel
theorem dX3_isFrozen_26 : decode cX3_isFrozen 26 = .ok (.iconst 1, 1) := by decide +kernel
theorem dX3_isFrozen_27 : decode cX3_isFrozen 27 = .ok (.goto 4, 3) := by decide +kernel
theorem dX3_isFrozen_30 : decode cX3_isFrozen 30 = .ok (.iconst 0, 1) := by decide +kernel
theorem dX3_isFrozen_31 : decode cX3_isFrozen 31 = .ok (.istore_n 2, 1) := by decide +kernel
theorem dX3_isFrozen_32 : decode cX3_isFrozen 32 = .ok (.iinc 3 1, 3) := by decide +kernel
theorem dX3_isFrozen_35 : decode cX3_isFrozen 35 = .ok (.goto (-31), 3) := by decide +kernel
theorem dX3_isFrozen_38 : decode cX3_isFrozen 38 = .ok (.iload_n 2, 1) := by decide +kernel
theorem dX3_isFrozen_39 : decode cX3_isFrozen 39 = .ok (.ireturn, 1) := by decide +kernel
theorem dX3_wellDone_0 : decode cX3_wellDone 0 = .ok (.lload_n 3, 1) := by decide +kernel
theorem dX3_wellDone_1 : decode cX3_wellDone 1 = .ok (.ldc2_w 87, 3) := by decide +kernel
theorem dX3_wellDone_4 : decode cX3_wellDone 4 = .ok (.lcmp, 1) := by decide +kernel
theorem dX3_wellDone_5 : decode cX3_wellDone 5 = .ok (.ifCond .eq 17, 3) := by decide +kernel
theorem dX3_wellDone_8 : decode cX3_wellDone 8 = .ok (.aload_n 0, 1) := by decide +kernel
theorem dX3_wellDone_9 : decode cX3_wellDone 9 = .ok (.getfield 30, 3) := by decide +kernel
theorem dX3_wellDone_12 : decode cX3_wellDone 12 = .ok (.bipush 21, 2) := by decide +kernel
theorem dX3_wellDone_14 : decode cX3_wellDone 14 = .ok (.iload_n 1, 1) := by decide +kernel
theorem dX3_wellDone_15 : decode cX3_wellDone 15 = .ok (.imul, 1) := by decide +kernel
theorem dX3_wellDone_16 : decode cX3_wellDone 16 = .ok (.iload_n 2, 1) := by decide +kernel
theorem dX3_wellDone_17 : decode cX3_wellDone 17 = .ok (.iadd, 1) := by decide +kernel
theorem dX3_wellDone_18 : decode cX3_wellDone 18 = .ok (.baload, 1) := by decide +kernel
theorem dX3_wellDone_19 : decode cX3_wellDone 19 = .ok (.ifCond .eq 7, 3) := by decide +kernel
theorem dX3_wellDone_22 : decode cX3_wellDone 22 = .ok (.ldc2_w 87, 3) := by decide +kernel
theorem dX3_wellDone_25 : decode cX3_wellDone 25 = .ok (.lreturn, 1) := by decide +kernel
theorem dX3_wellDone_26 : decode cX3_wellDone 26 = .ok (.lload_n 3, 1) := by decide +kernel
theorem dX3_wellDone_27 : decode cX3_wellDone 27 = .ok (.aload_n 0, 1) := by decide +kernel
theorem dX3_wellDone_28 : decode cX3_wellDone 28 = .ok (.getfield 27, 3) := by decide +kernel
theorem dX3_wellDone_31 : decode cX3_wellDone 31 = .ok (.bipush 21, 2) := by decide +kernel
theorem dX3_wellDone_33 : decode cX3_wellDone 33 = .ok (.iload_n 1, 1) := by decide +kernel
theorem dX3_wellDone_34 : decode cX3_wellDone 34 = .ok (.imul, 1) := by decide +kernel
theorem dX3_wellDone_35 : decode cX3_wellDone 35 = .ok (.iload_n 2, 1) := by decide +kernel
theorem dX3_wellDone_36 : decode cX3_wellDone 36 = .ok (.iadd, 1) := by decide +kernel
theorem dX3_wellDone_37 : decode cX3_wellDone 37 = .ok (.laload, 1) := by decide +kernel
theorem dX3_wellDone_38 : decode cX3_wellDone 38 = .ok (.ladd, 1) := by decide +kernel
theorem dX3_wellDone_39 : decode cX3_wellDone 39 = .ok (.lstore 5, 2) := by decide +kernel
theorem dX3_wellDone_41 : decode cX3_wellDone 41 = .ok (.lload 5, 2) := by decide +kernel
theorem dX3_wellDone_43 : decode cX3_wellDone 43 = .ok (.aload_n 0, 1) := by decide +kernel
theorem dX3_wellDone_44 : decode cX3_wellDone 44 = .ok (.getfield 16, 3) := by decide +kernel
theorem dX3_wellDone_47 : decode cX3_wellDone 47 = .ok (.iload_n 2, 1) := by decide +kernel
theorem dX3_wellDone_48 : decode cX3_wellDone 48 = .ok (.laload, 1) := by decide +kernel
theorem dX3_wellDone_49 : decode cX3_wellDone 49 = .ok (.lcmp, 1) := by decide +kernel
theorem dX3_wellDone_50 : decode cX3_wellDone 50 = .ok (.ifCond .le 7, 3) := by decide +kernel
theorem dX3_wellDone_53 : decode cX3_wellDone 53 = .ok (.ldc2_w 87, 3) := by decide +kernel
theorem dX3_wellDone_56 : decode cX3_wellDone 56 = .ok (.lreturn, 1) := by decide +kernel
theorem dX3_wellDone_57 : decode cX3_wellDone 57 = .ok (.lload 5, 2) := by decide +kernel
theorem dX3_wellDone_59 : decode cX3_wellDone 59 = .ok (.aload_n 0, 1) := by decide +kernel
theorem dX3_wellDone_60 : decode cX3_wellDone 60 = .ok (.getfield 13, 3) := by decide +kernel
theorem dX3_wellDone_63 : decode cX3_wellDone 63 = .ok (.iload_n 2, 1) := by decide +kernel
theorem dX3_wellDone_64 : decode cX3_wellDone 64 = .ok (.laload, 1) := by decide +kernel
theorem dX3_wellDone_65 : decode cX3_wellDone 65 = .ok (.lcmp, 1) := by decide +kernel
theorem dX3_wellDone_66 : decode cX3_wellDone 66 = .ok (.ifCond .ge 12, 3) := by decide +kernel
theorem dX3_wellDone_69 : decode cX3_wellDone 69 = .ok (.aload_n 0, 1) := by decide +kernel
theorem dX3_wellDone_70 : decode cX3_wellDone 70 = .ok (.getfield 13, 3) := by decide +kernel
theorem dX3_wellDone_73 : decode cX3_wellDone 73 = .ok (.iload_n 2, 1) := by decide +kernel
theorem dX3_wellDone_74 : decode cX3_wellDone 74 = .ok (.laload, 1) := by decide +kernel
theorem dX3_wellDone_75 : decode cX3_wellDone 75 = .ok (.goto 5, 3) := by decide +kernel
theorem dX3_wellDone_78 : decode cX3_wellDone 78 = .ok (.lload 5, 2) := by decide +kernel
theorem dX3_wellDone_80 : decode cX3_wellDone 80 = .ok (.aload_n 0, 1) := by decide +kernel
theorem dX3_wellDone_81 : decode cX3_wellDone 81 = .ok (.getfield 7, 3) := by decide +kernel
theorem dX3_wellDone_84 : decode cX3_wellDone 84 = .ok (.iload_n 2, 1) := by decide +kernel
theorem dX3_wellDone_85 : decode cX3_wellDone 85 = .ok (.laload, 1) := by decide +kernel
theorem dX3_wellDone_86 : decode cX3_wellDone 86 = .ok (.ladd, 1) := by decide +kernel
theorem dX3_wellDone_87 : decode cX3_wellDone 87 = .ok (.lreturn, 1) := by decide +kernel
theorem dX3_wellHome_0 : decode cX3_wellHome 0 = .ok (.lload_n 2, 1) := by decide +kernel
theorem dX3_wellHome_1 : decode cX3_wellHome 1 = .ok (.ldc2_w 87, 3) := by decide +kernel
theorem dX3_wellHome_4 : decode cX3_wellHome 4 = .ok (.lcmp, 1) := by decide +kernel
theorem dX3_wellHome_5 : decode cX3_wellHome 5 = .ok (.ifCond .eq 15, 3) := by decide +kernel
theorem dX3_wellHome_8 : decode cX3_wellHome 8 = .ok (.aload_n 0, 1) := by decide +kernel
theorem dX3_wellHome_9 : decode cX3_wellHome 9 = .ok (.getfield 30, 3) := by decide +kernel
theorem dX3_wellHome_12 : decode cX3_wellHome 12 = .ok (.bipush 21, 2) := by decide +kernel
theorem dX3_wellHome_14 : decode cX3_wellHome 14 = .ok (.iload_n 1, 1) := by decide +kernel
theorem dX3_wellHome_15 : decode cX3_wellHome 15 = .ok (.imul, 1) := by decide +kernel
theorem dX3_wellHome_16 : decode cX3_wellHome 16 = .ok (.baload, 1) := by decide +kernel
theorem dX3_wellHome_17 : decode cX3_wellHome 17 = .ok (.ifCond .eq 9, 3) := by decide +kernel
theorem dX3_wellHome_20 : decode cX3_wellHome 20 = .ok (.ldc2_w 87, 3) := by decide +kernel
theorem dX3_wellHome_23 : decode cX3_wellHome 23 = .ok (.goto 14, 3) := by decide +kernel
theorem dX3_wellHome_26 : decode cX3_wellHome 26 = .ok (.lload_n 2, 1) := by decide +kernel
theorem dX3_wellHome_27 : decode cX3_wellHome 27 = .ok (.aload_n 0, 1) := by decide +kernel
theorem dX3_wellHome_28 : decode cX3_wellHome 28 = .ok (.getfield 27, 3) := by decide +kernel
theorem dX3_wellHome_31 : decode cX3_wellHome 31 = .ok (.bipush 21, 2) := by decide +kernel
theorem dX3_wellHome_33 : decode cX3_wellHome 33 = .ok (.iload_n 1, 1) := by decide +kernel
theorem dX3_wellHome_34 : decode cX3_wellHome 34 = .ok (.imul, 1) := by decide +kernel
theorem dX3_wellHome_35 : decode cX3_wellHome 35 = .ok (.laload, 1) := by decide +kernel
theorem dX3_wellHome_36 : decode cX3_wellHome 36 = .ok (.ladd, 1) := by decide +kernel
theorem dX3_wellHome_37 : decode cX3_wellHome 37 = .ok (.lreturn, 1) := by decide +kernel
theorem dX3_spread_0 : decode cX3_spread 0 = .ok (.lconst 0, 1) := by decide +kernel
theorem dX3_spread_1 : decode cX3_spread 1 = .ok (.lstore_n 1, 1) := by decide +kernel
theorem dX3_spread_2 : decode cX3_spread 2 = .ok (.iconst 0, 1) := by decide +kernel
theorem dX3_spread_3 : decode cX3_spread 3 = .ok (.istore_n 3, 1) := by decide +kernel
theorem dX3_spread_4 : decode cX3_spread 4 = .ok (.iconst 0, 1) := by decide +kernel
theorem dX3_spread_5 : decode cX3_spread 5 = .ok (.istore 4, 2) := by decide +kernel
theorem dX3_spread_7 : decode cX3_spread 7 = .ok (.iload 4, 2) := by decide +kernel
theorem dX3_spread_9 : decode cX3_spread 9 = .ok (.aload_n 0, 1) := by decide +kernel
theorem dX3_spread_10 : decode cX3_spread 10 = .ok (.getfield 84, 3) := by decide +kernel
theorem dX3_spread_13 : decode cX3_spread 13 = .ok (.if_icmp .ge 31, 3) := by decide +kernel
theorem dX3_spread_16 : decode cX3_spread 16 = .ok (.aload_n 0, 1) := by decide +kernel
theorem dX3_spread_17 : decode cX3_spread 17 = .ok (.iload_n 3, 1) := by decide +kernel
theorem dX3_spread_18 : decode cX3_spread 18 = .ok (.aload_n 0, 1) := by decide +kernel
theorem dX3_spread_19 : decode cX3_spread 19 = .ok (.getfield 37, 3) := by decide +kernel
theorem dX3_spread_22 : decode cX3_spread 22 = .ok (.iload 4, 2) := by decide +kernel
theorem dX3_spread_24 : decode cX3_spread 24 = .ok (.iaload, 1) := by decide +kernel
theorem dX3_spread_25 : decode cX3_spread 25 = .ok (.lload_n 1, 1) := by decide +kernel
theorem dX3_spread_26 : decode cX3_spread 26 = .ok (.invokevirtual 89, 3) := by decide +kernel
theorem dX3_spread_29 : decode cX3_spread 29 = .ok (.lstore_n 1, 1) := by decide +kernel
theorem dX3_spread_30 : decode cX3_spread 30 = .ok (.aload_n 0, 1) := by decide +kernel
theorem dX3_spread_31 : decode cX3_spread 31 = .ok (.getfield 37, 3) := by decide +kernel
theorem dX3_spread_34 : decode cX3_spread 34 = .ok (.iload 4, 2) := by decide +kernel
theorem dX3_spread_36 : decode cX3_spread 36 = .ok (.iaload, 1) := by decide +kernel
theorem dX3_spread_37 : decode cX3_spread 37 = .ok (.istore_n 3, 1) := by decide +kernel
theorem dX3_spread_38 : decode cX3_spread 38 = .ok (.iinc 4 1, 3) := by decide +kernel
theorem dX3_spread_41 : decode cX3_spread 41 = .ok (.goto (-34), 3) := by decide +kernel
theorem dX3_spread_44 : decode cX3_spread 44 = .ok (.iconst 1, 1) := by decide +kernel
theorem dX3_spread_45 : decode cX3_spread 45 = .ok (.aload_n 0, 1) := by decide +kernel
theorem dX3_spread_46 : decode cX3_spread 46 = .ok (.getfield 93, 3) := by decide +kernel
theorem dX3_spread_49 : decode cX3_spread 49 = .ok (.ishl, 1) := by decide +kernel
theorem dX3_spread_50 : decode cX3_spread 50 = .ok (.istore 4, 2) := by decide +kernel
theorem dX3_spread_52 : decode cX3_spread 52 = .ok (.iconst 0, 1) := by decide +kernel
theorem dX3_spread_53 : decode cX3_spread 53 = .ok (.istore 5, 2) := by decide +kernel
theorem dX3_spread_55 : decode cX3_spread 55 = .ok (.iload 5, 2) := by decide +kernel
theorem dX3_spread_57 : decode cX3_spread 57 = .ok (.bipush 11, 2) := by decide +kernel
theorem dX3_spread_59 : decode cX3_spread 59 = .ok (.iload 4, 2) := by decide +kernel
theorem dX3_spread_61 : decode cX3_spread 61 = .ok (.imul, 1) := by decide +kernel
theorem dX3_spread_62 : decode cX3_spread 62 = .ok (.if_icmp .ge 19, 3) := by decide +kernel
theorem dX3_spread_65 : decode cX3_spread 65 = .ok (.aload_n 0, 1) := by decide +kernel
theorem dX3_spread_66 : decode cX3_spread 66 = .ok (.getfield 43, 3) := by decide +kernel
theorem dX3_spread_69 : decode cX3_spread 69 = .ok (.iload 5, 2) := by decide +kernel
theorem dX3_spread_71 : decode cX3_spread 71 = .ok (.ldc2_w 87, 3) := by decide +kernel
theorem dX3_spread_74 : decode cX3_spread 74 = .ok (.lastore, 1) := by decide +kernel
theorem dX3_spread_75 : decode cX3_spread 75 = .ok (.iinc 5 1, 3) := by decide +kernel
theorem dX3_spread_78 : decode cX3_spread 78 = .ok (.goto (-23), 3) := by decide +kernel
theorem dX3_spread_81 : decode cX3_spread 81 = .ok (.iconst 0, 1) := by decide +kernel
theorem dX3_spread_82 : decode cX3_spread 82 = .ok (.istore 5, 2) := by decide +kernel
theorem dX3_spread_84 : decode cX3_spread 84 = .ok (.iload 5, 2) := by decide +kernel
theorem dX3_spread_86 : decode cX3_spread 86 = .ok (.aload_n 0, 1) := by decide +kernel
theorem dX3_spread_87 : decode cX3_spread 87 = .ok (.getfield 93, 3) := by decide +kernel
theorem dX3_spread_90 : decode cX3_spread 90 = .ok (.if_icmp .ge 37, 3) := by decide +kernel
theorem dX3_spread_93 : decode cX3_spread 93 = .ok (.aload_n 0, 1) := by decide +kernel
theorem dX3_spread_94 : decode cX3_spread 94 = .ok (.getfield 43, 3) := by decide +kernel
theorem dX3_spread_97 : decode cX3_spread 97 = .ok (.bipush 11, 2) := by decide +kernel
theorem dX3_spread_99 : decode cX3_spread 99 = .ok (.iconst 1, 1) := by decide +kernel
theorem dX3_spread_100 : decode cX3_spread 100 = .ok (.iload 5, 2) := by decide +kernel
theorem dX3_spread_102 : decode cX3_spread 102 = .ok (.ishl, 1) := by decide +kernel
theorem dX3_spread_103 : decode cX3_spread 103 = .ok (.imul, 1) := by decide +kernel
theorem dX3_spread_104 : decode cX3_spread 104 = .ok (.iload 5, 2) := by decide +kernel
theorem dX3_spread_106 : decode cX3_spread 106 = .ok (.iadd, 1) := by decide +kernel
theorem dX3_spread_107 : decode cX3_spread 107 = .ok (.aload_n 0, 1) := by decide +kernel
theorem dX3_spread_108 : decode cX3_spread 108 = .ok (.iload_n 3, 1) := by decide +kernel
theorem dX3_spread_109 : decode cX3_spread 109 = .ok (.aload_n 0, 1) := by decide +kernel
theorem dX3_spread_110 : decode cX3_spread 110 = .ok (.getfield 40, 3) := by decide +kernel
theorem dX3_spread_113 : decode cX3_spread 113 = .ok (.iload 5, 2) := by decide +kernel
theorem dX3_spread_115 : decode cX3_spread 115 = .ok (.iaload, 1) := by decide +kernel
theorem dX3_spread_116 : decode cX3_spread 116 = .ok (.lload_n 1, 1) := by decide +kernel
theorem dX3_spread_117 : decode cX3_spread 117 = .ok (.invokevirtual 89, 3) := by decide +kernel
theorem dX3_spread_120 : decode cX3_spread 120 = .ok (.lastore, 1) := by decide +kernel
theorem dX3_spread_121 : decode cX3_spread 121 = .ok (.iinc 5 1, 3) := by decide +kernel
theorem dX3_spread_124 : decode cX3_spread 124 = .ok (.goto (-40), 3) := by decide +kernel
theorem dX3_spread_127 : decode cX3_spread 127 = .ok (.iconst 1, 1) := by decide +kernel
theorem dX3_spread_128 : decode cX3_spread 128 = .ok (.istore 5, 2) := by decide +kernel
theorem dX3_spread_130 : decode cX3_spread 130 = .ok (.iload 5, 2) := by decide +kernel
theorem dX3_spread_132 : decode cX3_spread 132 = .ok (.iload 4, 2) := by decide +kernel
theorem dX3_spread_134 : decode cX3_spread 134 = .ok (.if_icmp .ge 148, 3) := by decide +kernel
theorem dX3_spread_137 : decode cX3_spread 137 = .ok (.iconst 0, 1) := by decide +kernel
theorem dX3_spread_138 : decode cX3_spread 138 = .ok (.istore 6, 2) := by decide +kernel
theorem dX3_spread_140 : decode cX3_spread 140 = .ok (.iload 6, 2) := by decide +kernel
theorem dX3_spread_142 : decode cX3_spread 142 = .ok (.aload_n 0, 1) := by decide +kernel
theorem dX3_spread_143 : decode cX3_spread 143 = .ok (.getfield 93, 3) := by decide +kernel
theorem dX3_spread_146 : decode cX3_spread 146 = .ok (.if_icmp .ge 130, 3) := by decide +kernel
theorem dX3_spread_149 : decode cX3_spread 149 = .ok (.aload_n 0, 1) := by decide +kernel
theorem dX3_spread_150 : decode cX3_spread 150 = .ok (.getfield 43, 3) := by decide +kernel
theorem dX3_spread_153 : decode cX3_spread 153 = .ok (.bipush 11, 2) := by decide +kernel
theorem dX3_spread_155 : decode cX3_spread 155 = .ok (.iload 5, 2) := by decide +kernel
theorem dX3_spread_157 : decode cX3_spread 157 = .ok (.imul, 1) := by decide +kernel
theorem dX3_spread_158 : decode cX3_spread 158 = .ok (.iload 6, 2) := by decide +kernel
theorem dX3_spread_160 : decode cX3_spread 160 = .ok (.iadd, 1) := by decide +kernel
theorem dX3_spread_161 : decode cX3_spread 161 = .ok (.laload, 1) := by decide +kernel
theorem dX3_spread_162 : decode cX3_spread 162 = .ok (.lstore 7, 2) := by decide +kernel
theorem dX3_spread_164 : decode cX3_spread 164 = .ok (.iconst 0, 1) := by decide +kernel
theorem dX3_spread_165 : decode cX3_spread 165 = .ok (.istore 9, 2) := by decide +kernel
theorem dX3_spread_167 : decode cX3_spread 167 = .ok (.iload 9, 2) := by decide +kernel
theorem dX3_spread_169 : decode cX3_spread 169 = .ok (.aload_n 0, 1) := by decide +kernel
theorem dX3_spread_170 : decode cX3_spread 170 = .ok (.getfield 93, 3) := by decide +kernel
theorem dX3_spread_173 : decode cX3_spread 173 = .ok (.if_icmp .ge 97, 3) := by decide +kernel
theorem dX3_spread_176 : decode cX3_spread 176 = .ok (.lload 7, 2) := by decide +kernel
theorem dX3_spread_178 : decode cX3_spread 178 = .ok (.ldc2_w 87, 3) := by decide +kernel
theorem dX3_spread_181 : decode cX3_spread 181 = .ok (.lcmp, 1) := by decide +kernel
theorem dX3_spread_182 : decode cX3_spread 182 = .ok (.ifCond .ge 88, 3) := by decide +kernel
theorem dX3_spread_185 : decode cX3_spread 185 = .ok (.iload 5, 2) := by decide +kernel
theorem dX3_spread_187 : decode cX3_spread 187 = .ok (.iload 9, 2) := by decide +kernel
theorem dX3_spread_189 : decode cX3_spread 189 = .ok (.ishr, 1) := by decide +kernel
theorem dX3_spread_190 : decode cX3_spread 190 = .ok (.iconst 1, 1) := by decide +kernel
theorem dX3_spread_191 : decode cX3_spread 191 = .ok (.iand, 1) := by decide +kernel
theorem dX3_spread_192 : decode cX3_spread 192 = .ok (.ifCond .ne 72, 3) := by decide +kernel
theorem dX3_spread_195 : decode cX3_spread 195 = .ok (.bipush 11, 2) := by decide +kernel
theorem dX3_spread_197 : decode cX3_spread 197 = .ok (.iload 5, 2) := by decide +kernel
theorem dX3_spread_199 : decode cX3_spread 199 = .ok (.iconst 1, 1) := by decide +kernel
theorem dX3_spread_200 : decode cX3_spread 200 = .ok (.iload 9, 2) := by decide +kernel
theorem dX3_spread_202 : decode cX3_spread 202 = .ok (.ishl, 1) := by decide +kernel
theorem dX3_spread_203 : decode cX3_spread 203 = .ok (.ior, 1) := by decide +kernel
theorem dX3_spread_204 : decode cX3_spread 204 = .ok (.imul, 1) := by decide +kernel
theorem dX3_spread_205 : decode cX3_spread 205 = .ok (.iload 9, 2) := by decide +kernel
theorem dX3_spread_207 : decode cX3_spread 207 = .ok (.iadd, 1) := by decide +kernel
theorem dX3_spread_208 : decode cX3_spread 208 = .ok (.istore 10, 2) := by decide +kernel
theorem dX3_spread_210 : decode cX3_spread 210 = .ok (.aload_n 0, 1) := by decide +kernel
theorem dX3_spread_211 : decode cX3_spread 211 = .ok (.aload_n 0, 1) := by decide +kernel
theorem dX3_spread_212 : decode cX3_spread 212 = .ok (.getfield 40, 3) := by decide +kernel
theorem dX3_spread_215 : decode cX3_spread 215 = .ok (.iload 6, 2) := by decide +kernel
theorem dX3_spread_217 : decode cX3_spread 217 = .ok (.iaload, 1) := by decide +kernel
theorem dX3_spread_218 : decode cX3_spread 218 = .ok (.aload_n 0, 1) := by decide +kernel
theorem dX3_spread_219 : decode cX3_spread 219 = .ok (.getfield 40, 3) := by decide +kernel
theorem dX3_spread_222 : decode cX3_spread 222 = .ok (.iload 9, 2) := by decide +kernel
theorem dX3_spread_224 : decode cX3_spread 224 = .ok (.iaload, 1) := by decide +kernel
theorem dX3_spread_225 : decode cX3_spread 225 = .ok (.lload 7, 2) := by decide +kernel
theorem dX3_spread_227 : decode cX3_spread 227 = .ok (.invokevirtual 89, 3) := by decide +kernel
theorem dX3_spread_230 : decode cX3_spread 230 = .ok (.lstore 11, 2) := by decide +kernel
theorem dX3_spread_232 : decode cX3_spread 232 = .ok (.aload_n 0, 1) := by decide +kernel
theorem dX3_spread_233 : decode cX3_spread 233 = .ok (.getfield 43, 3) := by decide +kernel
theorem dX3_spread_236 : decode cX3_spread 236 = .ok (.iload 10, 2) := by decide +kernel
theorem dX3_spread_238 : decode cX3_spread 238 = .ok (.lload 11, 2) := by decide +kernel
theorem dX3_spread_240 : decode cX3_spread 240 = .ok (.aload_n 0, 1) := by decide +kernel
theorem dX3_spread_241 : decode cX3_spread 241 = .ok (.getfield 43, 3) := by decide +kernel
theorem dX3_spread_244 : decode cX3_spread 244 = .ok (.iload 10, 2) := by decide +kernel
theorem dX3_spread_246 : decode cX3_spread 246 = .ok (.laload, 1) := by decide +kernel
theorem dX3_spread_247 : decode cX3_spread 247 = .ok (.lcmp, 1) := by decide +kernel
theorem dX3_spread_248 : decode cX3_spread 248 = .ok (.ifCond .ge 8, 3) := by decide +kernel
theorem dX3_spread_251 : decode cX3_spread 251 = .ok (.lload 11, 2) := by decide +kernel
theorem dX3_spread_253 : decode cX3_spread 253 = .ok (.goto 10, 3) := by decide +kernel
theorem dX3_spread_256 : decode cX3_spread 256 = .ok (.aload_n 0, 1) := by decide +kernel
theorem dX3_spread_257 : decode cX3_spread 257 = .ok (.getfield 43, 3) := by decide +kernel
theorem dX3_spread_260 : decode cX3_spread 260 = .ok (.iload 10, 2) := by decide +kernel
theorem dX3_spread_262 : decode cX3_spread 262 = .ok (.laload, 1) := by decide +kernel
theorem dX3_spread_263 : decode cX3_spread 263 = .ok (.lastore, 1) := by decide +kernel
theorem dX3_spread_264 : decode cX3_spread 264 = .ok (.iinc 9 1, 3) := by decide +kernel
theorem dX3_spread_267 : decode cX3_spread 267 = .ok (.goto (-100), 3) := by decide +kernel
theorem dX3_spread_270 : decode cX3_spread 270 = .ok (.iinc 6 1, 3) := by decide +kernel
theorem dX3_spread_273 : decode cX3_spread 273 = .ok (.goto (-133), 3) := by decide +kernel
theorem dX3_spread_276 : decode cX3_spread 276 = .ok (.iinc 5 1, 3) := by decide +kernel
theorem dX3_spread_279 : decode cX3_spread 279 = .ok (.goto (-149), 3) := by decide +kernel
theorem dX3_spread_282 : decode cX3_spread 282 = .ok (.return_, 1) := by decide +kernel
theorem dX3_findExact_0 : decode cX3_findExact 0 = .ok (.lconst 0, 1) := by decide +kernel
theorem dX3_findExact_1 : decode cX3_findExact 1 = .ok (.lstore_n 1, 1) := by decide +kernel
theorem dX3_findExact_2 : decode cX3_findExact 2 = .ok (.iconst 0, 1) := by decide +kernel
theorem dX3_findExact_3 : decode cX3_findExact 3 = .ok (.istore_n 3, 1) := by decide +kernel
theorem dX3_findExact_4 : decode cX3_findExact 4 = .ok (.iconst 0, 1) := by decide +kernel
theorem dX3_findExact_5 : decode cX3_findExact 5 = .ok (.istore 4, 2) := by decide +kernel
theorem dX3_findExact_7 : decode cX3_findExact 7 = .ok (.iload 4, 2) := by decide +kernel
theorem dX3_findExact_9 : decode cX3_findExact 9 = .ok (.aload_n 0, 1) := by decide +kernel
theorem dX3_findExact_10 : decode cX3_findExact 10 = .ok (.getfield 84, 3) := by decide +kernel
theorem dX3_findExact_13 : decode cX3_findExact 13 = .ok (.if_icmp .ge 45, 3) := by decide +kernel
theorem dX3_findExact_16 : decode cX3_findExact 16 = .ok (.aload_n 0, 1) := by decide +kernel
theorem dX3_findExact_17 : decode cX3_findExact 17 = .ok (.iload_n 3, 1) := by decide +kernel
theorem dX3_findExact_18 : decode cX3_findExact 18 = .ok (.aload_n 0, 1) := by decide +kernel
theorem dX3_findExact_19 : decode cX3_findExact 19 = .ok (.getfield 37, 3) := by decide +kernel
theorem dX3_findExact_22 : decode cX3_findExact 22 = .ok (.iload 4, 2) := by decide +kernel
theorem dX3_findExact_24 : decode cX3_findExact 24 = .ok (.iaload, 1) := by decide +kernel
theorem dX3_findExact_25 : decode cX3_findExact 25 = .ok (.lload_n 1, 1) := by decide +kernel
theorem dX3_findExact_26 : decode cX3_findExact 26 = .ok (.invokevirtual 89, 3) := by decide +kernel
theorem dX3_findExact_29 : decode cX3_findExact 29 = .ok (.lstore_n 1, 1) := by decide +kernel
theorem dX3_findExact_30 : decode cX3_findExact 30 = .ok (.aload_n 0, 1) := by decide +kernel
theorem dX3_findExact_31 : decode cX3_findExact 31 = .ok (.getfield 37, 3) := by decide +kernel
theorem dX3_findExact_34 : decode cX3_findExact 34 = .ok (.iload 4, 2) := by decide +kernel
theorem dX3_findExact_36 : decode cX3_findExact 36 = .ok (.iaload, 1) := by decide +kernel
theorem dX3_findExact_37 : decode cX3_findExact 37 = .ok (.istore_n 3, 1) := by decide +kernel
theorem dX3_findExact_38 : decode cX3_findExact 38 = .ok (.aload_n 0, 1) := by decide +kernel
theorem dX3_findExact_39 : decode cX3_findExact 39 = .ok (.getfield 46, 3) := by decide +kernel
theorem dX3_findExact_42 : decode cX3_findExact 42 = .ok (.iload 4, 2) := by decide +kernel
theorem dX3_findExact_44 : decode cX3_findExact 44 = .ok (.aload_n 0, 1) := by decide +kernel
theorem dX3_findExact_45 : decode cX3_findExact 45 = .ok (.getfield 37, 3) := by decide +kernel
theorem dX3_findExact_48 : decode cX3_findExact 48 = .ok (.iload 4, 2) := by decide +kernel
theorem dX3_findExact_50 : decode cX3_findExact 50 = .ok (.iaload, 1) := by decide +kernel
theorem dX3_findExact_51 : decode cX3_findExact 51 = .ok (.iastore, 1) := by decide +kernel
theorem dX3_findExact_52 : decode cX3_findExact 52 = .ok (.iinc 4 1, 3) := by decide +kernel
theorem dX3_findExact_55 : decode cX3_findExact 55 = .ok (.goto (-48), 3) := by decide +kernel
theorem dX3_findExact_58 : decode cX3_findExact 58 = .ok (.aload_n 0, 1) := by decide +kernel
theorem dX3_findExact_59 : decode cX3_findExact 59 = .ok (.aload_n 0, 1) := by decide +kernel
theorem dX3_findExact_60 : decode cX3_findExact 60 = .ok (.getfield 54, 3) := by decide +kernel
theorem dX3_findExact_63 : decode cX3_findExact 63 = .ok (.putfield 79, 3) := by decide +kernel
theorem dX3_findExact_66 : decode cX3_findExact 66 = .ok (.aload_n 0, 1) := by decide +kernel
theorem dX3_findExact_67 : decode cX3_findExact 67 = .ok (.getfield 93, 3) := by decide +kernel
theorem dX3_findExact_70 : decode cX3_findExact 70 = .ok (.ifCond .ne 36, 3) := by decide +kernel
theorem dX3_findExact_73 : decode cX3_findExact 73 = .ok (.lload_n 1, 1) := by decide +kernel
theorem dX3_findExact_74 : decode cX3_findExact 74 = .ok (.ldc2_w 87, 3) := by decide +kernel
theorem dX3_findExact_77 : decode cX3_findExact 77 = .ok (.lcmp, 1) := by decide +kernel
theorem dX3_findExact_78 : decode cX3_findExact 78 = .ok (.ifCond .ge 26, 3) := by decide +kernel
theorem dX3_findExact_81 : decode cX3_findExact 81 = .ok (.aload_n 0, 1) := by decide +kernel
theorem dX3_findExact_82 : decode cX3_findExact 82 = .ok (.getfield 54, 3) := by decide +kernel
theorem dX3_findExact_85 : decode cX3_findExact 85 = .ok (.ifCond .eq 15, 3) := by decide +kernel
theorem dX3_findExact_88 : decode cX3_findExact 88 = .ok (.aload_n 0, 1) := by decide +kernel
theorem dX3_findExact_89 : decode cX3_findExact 89 = .ok (.getfield 30, 3) := by decide +kernel
theorem dX3_findExact_92 : decode cX3_findExact 92 = .ok (.bipush 21, 2) := by decide +kernel
theorem dX3_findExact_94 : decode cX3_findExact 94 = .ok (.iload_n 3, 1) := by decide +kernel
theorem dX3_findExact_95 : decode cX3_findExact 95 = .ok (.imul, 1) := by decide +kernel
theorem dX3_findExact_96 : decode cX3_findExact 96 = .ok (.baload, 1) := by decide +kernel
theorem dX3_findExact_97 : decode cX3_findExact 97 = .ok (.ifCond .ne 7, 3) := by decide +kernel
theorem dX3_findExact_100 : decode cX3_findExact 100 = .ok (.iconst 1, 1) := by decide +kernel
theorem dX3_findExact_101 : decode cX3_findExact 101 = .ok (.goto 4, 3) := by decide +kernel
theorem dX3_findExact_104 : decode cX3_findExact 104 = .ok (.iconst 0, 1) := by decide +kernel
theorem dX3_findExact_105 : decode cX3_findExact 105 = .ok (.ireturn, 1) := by decide +kernel
theorem dX3_findExact_106 : decode cX3_findExact 106 = .ok (.aload_n 0, 1) := by decide +kernel
theorem dX3_findExact_107 : decode cX3_findExact 107 = .ok (.invokevirtual 96, 3) := by decide +kernel
theorem dX3_findExact_110 : decode cX3_findExact 110 = .ok (.iconst 1, 1) := by decide +kernel
theorem dX3_findExact_111 : decode cX3_findExact 111 = .ok (.aload_n 0, 1) := by decide +kernel
theorem dX3_findExact_112 : decode cX3_findExact 112 = .ok (.getfield 93, 3) := by decide +kernel
theorem dX3_findExact_115 : decode cX3_findExact 115 = .ok (.ishl, 1) := by decide +kernel
theorem dX3_findExact_116 : decode cX3_findExact 116 = .ok (.iconst 1, 1) := by decide +kernel
theorem dX3_findExact_117 : decode cX3_findExact 117 = .ok (.isub, 1) := by decide +kernel
theorem dX3_findExact_118 : decode cX3_findExact 118 = .ok (.istore 4, 2) := by decide +kernel
theorem dX3_findExact_120 : decode cX3_findExact 120 = .ok (.iconst (-1), 1) := by decide +kernel
theorem dX3_findExact_121 : decode cX3_findExact 121 = .ok (.istore 5, 2) := by decide +kernel
theorem dX3_findExact_123 : decode cX3_findExact 123 = .ok (.ldc2_w 87, 3) := by decide +kernel
theorem dX3_findExact_126 : decode cX3_findExact 126 = .ok (.lstore 6, 2) := by decide +kernel
theorem dX3_findExact_128 : decode cX3_findExact 128 = .ok (.aload_n 0, 1) := by decide +kernel
theorem dX3_findExact_129 : decode cX3_findExact 129 = .ok (.getfield 93, 3) := by decide +kernel
theorem dX3_findExact_132 : decode cX3_findExact 132 = .ok (.iconst 1, 1) := by decide +kernel
theorem dX3_findExact_133 : decode cX3_findExact 133 = .ok (.isub, 1) := by decide +kernel
theorem dX3_findExact_134 : decode cX3_findExact 134 = .ok (.istore 8, 2) := by decide +kernel
theorem dX3_findExact_136 : decode cX3_findExact 136 = .ok (.iload 8, 2) := by decide +kernel
theorem dX3_findExact_138 : decode cX3_findExact 138 = .ok (.ifCond .lt 60, 3) := by decide +kernel
theorem dX3_findExact_141 : decode cX3_findExact 141 = .ok (.aload_n 0, 1) := by decide +kernel
theorem dX3_findExact_142 : decode cX3_findExact 142 = .ok (.aload_n 0, 1) := by decide +kernel
theorem dX3_findExact_143 : decode cX3_findExact 143 = .ok (.getfield 40, 3) := by decide +kernel
theorem dX3_findExact_146 : decode cX3_findExact 146 = .ok (.iload 8, 2) := by decide +kernel
theorem dX3_findExact_148 : decode cX3_findExact 148 = .ok (.iaload, 1) := by decide +kernel
theorem dX3_findExact_149 : decode cX3_findExact 149 = .ok (.aload_n 0, 1) := by decide +kernel
theorem dX3_findExact_150 : decode cX3_findExact 150 = .ok (.getfield 43, 3) := by decide +kernel
theorem dX3_findExact_153 : decode cX3_findExact 153 = .ok (.bipush 11, 2) := by decide +kernel
theorem dX3_findExact_155 : decode cX3_findExact 155 = .ok (.iload 4, 2) := by decide +kernel
theorem dX3_findExact_157 : decode cX3_findExact 157 = .ok (.imul, 1) := by decide +kernel
theorem dX3_findExact_158 : decode cX3_findExact 158 = .ok (.iload 8, 2) := by decide +kernel
theorem dX3_findExact_160 : decode cX3_findExact 160 = .ok (.iadd, 1) := by decide +kernel
theorem dX3_findExact_161 : decode cX3_findExact 161 = .ok (.laload, 1) := by decide +kernel
theorem dX3_findExact_162 : decode cX3_findExact 162 = .ok (.invokevirtual 99, 3) := by decide +kernel
theorem dX3_findExact_165 : decode cX3_findExact 165 = .ok (.lstore 9, 2) := by decide +kernel
theorem dX3_findExact_167 : decode cX3_findExact 167 = .ok (.lload 9, 2) := by decide +kernel
theorem dX3_findExact_169 : decode cX3_findExact 169 = .ok (.ldc2_w 87, 3) := by decide +kernel
theorem dX3_findExact_172 : decode cX3_findExact 172 = .ok (.lcmp, 1) := by decide +kernel
theorem dX3_findExact_173 : decode cX3_findExact 173 = .ok (.ifCond .ge 19, 3) := by decide +kernel
theorem dX3_findExact_176 : decode cX3_findExact 176 = .ok (.lload 9, 2) := by decide +kernel
theorem dX3_findExact_178 : decode cX3_findExact 178 = .ok (.lload 6, 2) := by decide +kernel
theorem dX3_findExact_180 : decode cX3_findExact 180 = .ok (.lcmp, 1) := by decide +kernel
theorem dX3_findExact_181 : decode cX3_findExact 181 = .ok (.ifCond .gt 11, 3) := by decide +kernel
theorem dX3_findExact_184 : decode cX3_findExact 184 = .ok (.lload 9, 2) := by decide +kernel
theorem dX3_findExact_186 : decode cX3_findExact 186 = .ok (.lstore 6, 2) := by decide +kernel
theorem dX3_findExact_188 : decode cX3_findExact 188 = .ok (.iload 8, 2) := by decide +kernel
theorem dX3_findExact_190 : decode cX3_findExact 190 = .ok (.istore 5, 2) := by decide +kernel
theorem dX3_findExact_192 : decode cX3_findExact 192 = .ok (.iinc 8 (-1), 3) := by decide +kernel
theorem dX3_findExact_195 : decode cX3_findExact 195 = .ok (.goto (-59), 3) := by decide +kernel
theorem dX3_findExact_198 : decode cX3_findExact 198 = .ok (.iload 5, 2) := by decide +kernel
theorem dX3_findExact_200 : decode cX3_findExact 200 = .ok (.ifCond .ge 5, 3) := by decide +kernel
theorem dX3_findExact_203 : decode cX3_findExact 203 = .ok (.iconst 0, 1) := by decide +kernel
theorem dX3_findExact_204 : decode cX3_findExact 204 = .ok (.ireturn, 1) := by decide +kernel
theorem dX3_findExact_205 : decode cX3_findExact 205 = .ok (.aload_n 0, 1) := by decide +kernel
theorem dX3_findExact_206 : decode cX3_findExact 206 = .ok (.getfield 54, 3) := by decide +kernel
theorem dX3_findExact_209 : decode cX3_findExact 209 = .ok (.iconst 1, 1) := by decide +kernel
theorem dX3_findExact_210 : decode cX3_findExact 210 = .ok (.isub, 1) := by decide +kernel
theorem dX3_findExact_211 : decode cX3_findExact 211 = .ok (.istore 8, 2) := by decide +kernel
theorem dX3_findExact_213 : decode cX3_findExact 213 = .ok (.iload 8, 2) := by decide +kernel
theorem dX3_findExact_215 : decode cX3_findExact 215 = .ok (.aload_n 0, 1) := by decide +kernel
theorem dX3_findExact_216 : decode cX3_findExact 216 = .ok (.getfield 84, 3) := by decide +kernel
theorem dX3_findExact_219 : decode cX3_findExact 219 = .ok (.if_icmp .lt 144, 3) := by decide +kernel
theorem dX3_findExact_222 : decode cX3_findExact 222 = .ok (.aload_n 0, 1) := by decide +kernel
theorem dX3_findExact_223 : decode cX3_findExact 223 = .ok (.getfield 46, 3) := by decide +kernel
theorem dX3_findExact_226 : decode cX3_findExact 226 = .ok (.iload 8, 2) := by decide +kernel
theorem dX3_findExact_228 : decode cX3_findExact 228 = .ok (.aload_n 0, 1) := by decide +kernel
theorem dX3_findExact_229 : decode cX3_findExact 229 = .ok (.getfield 40, 3) := by decide +kernel
theorem dX3_findExact_232 : decode cX3_findExact 232 = .ok (.iload 5, 2) := by decide +kernel
theorem dX3_findExact_234 : decode cX3_findExact 234 = .ok (.iaload, 1) := by decide +kernel
theorem dX3_findExact_235 : decode cX3_findExact 235 = .ok (.iastore, 1) := by decide +kernel
theorem dX3_findExact_236 : decode cX3_findExact 236 = .ok (.iload 4, 2) := by decide +kernel
theorem dX3_findExact_238 : decode cX3_findExact 238 = .ok (.iconst 1, 1) := by decide +kernel
theorem dX3_findExact_239 : decode cX3_findExact 239 = .ok (.iload 5, 2) := by decide +kernel
theorem dX3_findExact_241 : decode cX3_findExact 241 = .ok (.ishl, 1) := by decide +kernel
theorem dX3_findExact_242 : decode cX3_findExact 242 = .ok (.iconst (-1), 1) := by decide +kernel
theorem dX3_findExact_243 : decode cX3_findExact 243 = .ok (.ixor, 1) := by decide +kernel
theorem dX3_findExact_244 : decode cX3_findExact 244 = .ok (.iand, 1) := by decide +kernel
theorem dX3_findExact_245 : decode cX3_findExact 245 = .ok (.istore 9, 2) := by decide +kernel
theorem dX3_findExact_247 : decode cX3_findExact 247 = .ok (.iconst (-1), 1) := by decide +kernel
theorem dX3_findExact_248 : decode cX3_findExact 248 = .ok (.istore 10, 2) := by decide +kernel
theorem dX3_findExact_250 : decode cX3_findExact 250 = .ok (.aload_n 0, 1) := by decide +kernel
theorem dX3_findExact_251 : decode cX3_findExact 251 = .ok (.getfield 93, 3) := by decide +kernel
theorem dX3_findExact_254 : decode cX3_findExact 254 = .ok (.iconst 1, 1) := by decide +kernel
theorem dX3_findExact_255 : decode cX3_findExact 255 = .ok (.isub, 1) := by decide +kernel
theorem dX3_findExact_256 : decode cX3_findExact 256 = .ok (.istore 11, 2) := by decide +kernel
theorem dX3_findExact_258 : decode cX3_findExact 258 = .ok (.iload 11, 2) := by decide +kernel
theorem dX3_findExact_260 : decode cX3_findExact 260 = .ok (.ifCond .lt 89, 3) := by decide +kernel
theorem dX3_findExact_263 : decode cX3_findExact 263 = .ok (.iload 9, 2) := by decide +kernel
theorem dX3_findExact_265 : decode cX3_findExact 265 = .ok (.iload 11, 2) := by decide +kernel
theorem dX3_findExact_267 : decode cX3_findExact 267 = .ok (.ishr, 1) := by decide +kernel
theorem dX3_findExact_268 : decode cX3_findExact 268 = .ok (.iconst 1, 1) := by decide +kernel
theorem dX3_findExact_269 : decode cX3_findExact 269 = .ok (.iand, 1) := by decide +kernel
theorem dX3_findExact_270 : decode cX3_findExact 270 = .ok (.iconst 1, 1) := by decide +kernel
theorem dX3_findExact_271 : decode cX3_findExact 271 = .ok (.if_icmp .ne 55, 3) := by decide +kernel
theorem dX3_findExact_274 : decode cX3_findExact 274 = .ok (.aload_n 0, 1) := by decide +kernel
theorem dX3_findExact_275 : decode cX3_findExact 275 = .ok (.aload_n 0, 1) := by decide +kernel
theorem dX3_findExact_276 : decode cX3_findExact 276 = .ok (.getfield 40, 3) := by decide +kernel
theorem dX3_findExact_279 : decode cX3_findExact 279 = .ok (.iload 11, 2) := by decide +kernel
theorem dX3_findExact_281 : decode cX3_findExact 281 = .ok (.iaload, 1) := by decide +kernel
theorem dX3_findExact_282 : decode cX3_findExact 282 = .ok (.aload_n 0, 1) := by decide +kernel
theorem dX3_findExact_283 : decode cX3_findExact 283 = .ok (.getfield 40, 3) := by decide +kernel
theorem dX3_findExact_286 : decode cX3_findExact 286 = .ok (.iload 5, 2) := by decide +kernel
theorem dX3_findExact_288 : decode cX3_findExact 288 = .ok (.iaload, 1) := by decide +kernel
theorem dX3_findExact_289 : decode cX3_findExact 289 = .ok (.aload_n 0, 1) := by decide +kernel
theorem dX3_findExact_290 : decode cX3_findExact 290 = .ok (.getfield 43, 3) := by decide +kernel
theorem dX3_findExact_293 : decode cX3_findExact 293 = .ok (.bipush 11, 2) := by decide +kernel
theorem dX3_findExact_295 : decode cX3_findExact 295 = .ok (.iload 9, 2) := by decide +kernel
theorem dX3_findExact_297 : decode cX3_findExact 297 = .ok (.imul, 1) := by decide +kernel
theorem dX3_findExact_298 : decode cX3_findExact 298 = .ok (.iload 11, 2) := by decide +kernel
theorem dX3_findExact_300 : decode cX3_findExact 300 = .ok (.iadd, 1) := by decide +kernel
theorem dX3_findExact_301 : decode cX3_findExact 301 = .ok (.laload, 1) := by decide +kernel
theorem dX3_findExact_302 : decode cX3_findExact 302 = .ok (.invokevirtual 89, 3) := by decide +kernel
theorem dX3_findExact_305 : decode cX3_findExact 305 = .ok (.aload_n 0, 1) := by decide +kernel
theorem dX3_findExact_306 : decode cX3_findExact 306 = .ok (.getfield 43, 3) := by decide +kernel
theorem dX3_findExact_309 : decode cX3_findExact 309 = .ok (.bipush 11, 2) := by decide +kernel
theorem dX3_findExact_311 : decode cX3_findExact 311 = .ok (.iload 4, 2) := by decide +kernel
theorem dX3_findExact_313 : decode cX3_findExact 313 = .ok (.imul, 1) := by decide +kernel
theorem dX3_findExact_314 : decode cX3_findExact 314 = .ok (.iload 5, 2) := by decide +kernel
theorem dX3_findExact_316 : decode cX3_findExact 316 = .ok (.iadd, 1) := by decide +kernel
theorem dX3_findExact_317 : decode cX3_findExact 317 = .ok (.laload, 1) := by decide +kernel
theorem dX3_findExact_318 : decode cX3_findExact 318 = .ok (.lcmp, 1) := by decide +kernel
theorem dX3_findExact_319 : decode cX3_findExact 319 = .ok (.ifCond .ne 7, 3) := by decide +kernel
theorem dX3_findExact_322 : decode cX3_findExact 322 = .ok (.iconst 1, 1) := by decide +kernel
theorem dX3_findExact_323 : decode cX3_findExact 323 = .ok (.goto 4, 3) := by decide +kernel
theorem dX3_findExact_326 : decode cX3_findExact 326 = .ok (.iconst 0, 1) := by decide +kernel
theorem dX3_findExact_327 : decode cX3_findExact 327 = .ok (.istore 12, 2) := by decide +kernel
theorem dX3_findExact_329 : decode cX3_findExact 329 = .ok (.iload 12, 2) := by decide +kernel
theorem dX3_findExact_331 : decode cX3_findExact 331 = .ok (.ifCond .eq 8, 3) := by decide +kernel
theorem dX3_findExact_334 : decode cX3_findExact 334 = .ok (.iload 11, 2) := by decide +kernel
theorem dX3_findExact_336 : decode cX3_findExact 336 = .ok (.goto 5, 3) := by decide +kernel
theorem dX3_findExact_339 : decode cX3_findExact 339 = .ok (.iload 10, 2) := by decide +kernel
theorem dX3_findExact_341 : decode cX3_findExact 341 = .ok (.istore 10, 2) := by decide +kernel
theorem dX3_findExact_343 : decode cX3_findExact 343 = .ok (.iinc 11 (-1), 3) := by decide +kernel
theorem dX3_findExact_346 : decode cX3_findExact 346 = .ok (.goto (-88), 3) := by decide +kernel
theorem dX3_findExact_349 : decode cX3_findExact 349 = .ok (.iload 9, 2) := by decide +kernel
theorem dX3_findExact_351 : decode cX3_findExact 351 = .ok (.istore 4, 2) := by decide +kernel
theorem dX3_findExact_353 : decode cX3_findExact 353 = .ok (.iload 10, 2) := by decide +kernel
theorem dX3_findExact_355 : decode cX3_findExact 355 = .ok (.istore 5, 2) := by decide +kernel
theorem dX3_findExact_357 : decode cX3_findExact 357 = .ok (.iinc 8 (-1), 3) := by decide +kernel
theorem dX3_findExact_360 : decode cX3_findExact 360 = .ok (.goto (-147), 3) := by decide +kernel
theorem dX3_findExact_363 : decode cX3_findExact 363 = .ok (.iconst 1, 1) := by decide +kernel
theorem dX3_findExact_364 : decode cX3_findExact 364 = .ok (.ireturn, 1) := by decide +kernel
theorem dX3_putIn_0 : decode cX3_putIn 0 = .ok (.aload_n 0, 1) := by decide +kernel
theorem dX3_putIn_1 : decode cX3_putIn 1 = .ok (.getfield 79, 3) := by decide +kernel
theorem dX3_putIn_4 : decode cX3_putIn 4 = .ok (.istore_n 3, 1) := by decide +kernel
theorem dX3_putIn_5 : decode cX3_putIn 5 = .ok (.iload_n 3, 1) := by decide +kernel
theorem dX3_putIn_6 : decode cX3_putIn 6 = .ok (.iload_n 1, 1) := by decide +kernel
theorem dX3_putIn_7 : decode cX3_putIn 7 = .ok (.if_icmp .le 23, 3) := by decide +kernel
theorem dX3_putIn_10 : decode cX3_putIn 10 = .ok (.aload_n 0, 1) := by decide +kernel
theorem dX3_putIn_11 : decode cX3_putIn 11 = .ok (.getfield 46, 3) := by decide +kernel
theorem dX3_putIn_14 : decode cX3_putIn 14 = .ok (.iload_n 3, 1) := by decide +kernel
theorem dX3_putIn_15 : decode cX3_putIn 15 = .ok (.aload_n 0, 1) := by decide +kernel
theorem dX3_putIn_16 : decode cX3_putIn 16 = .ok (.getfield 46, 3) := by decide +kernel
theorem dX3_putIn_19 : decode cX3_putIn 19 = .ok (.iload_n 3, 1) := by decide +kernel
theorem dX3_putIn_20 : decode cX3_putIn 20 = .ok (.iconst 1, 1) := by decide +kernel
theorem dX3_putIn_21 : decode cX3_putIn 21 = .ok (.isub, 1) := by decide +kernel
theorem dX3_putIn_22 : decode cX3_putIn 22 = .ok (.iaload, 1) := by decide +kernel
theorem dX3_putIn_23 : decode cX3_putIn 23 = .ok (.iastore, 1) := by decide +kernel
theorem dX3_putIn_24 : decode cX3_putIn 24 = .ok (.iinc 3 (-1), 3) := by decide +kernel
theorem dX3_putIn_27 : decode cX3_putIn 27 = .ok (.goto (-22), 3) := by decide +kernel
theorem dX3_putIn_30 : decode cX3_putIn 30 = .ok (.aload_n 0, 1) := by decide +kernel
theorem dX3_putIn_31 : decode cX3_putIn 31 = .ok (.getfield 46, 3) := by decide +kernel
theorem dX3_putIn_34 : decode cX3_putIn 34 = .ok (.iload_n 1, 1) := by decide +kernel
theorem dX3_putIn_35 : decode cX3_putIn 35 = .ok (.iload_n 2, 1) := by decide +kernel
theorem dX3_putIn_36 : decode cX3_putIn 36 = .ok (.iastore, 1) := by decide +kernel
theorem dX3_putIn_37 : decode cX3_putIn 37 = .ok (.aload_n 0, 1) := by decide +kernel
theorem dX3_putIn_38 : decode cX3_putIn 38 = .ok (.dup, 1) := by decide +kernel
theorem dX3_putIn_39 : decode cX3_putIn 39 = .ok (.getfield 79, 3) := by decide +kernel
theorem dX3_putIn_42 : decode cX3_putIn 42 = .ok (.iconst 1, 1) := by decide +kernel
theorem dX3_putIn_43 : decode cX3_putIn 43 = .ok (.iadd, 1) := by decide +kernel
theorem dX3_putIn_44 : decode cX3_putIn 44 = .ok (.putfield 79, 3) := by decide +kernel
theorem dX3_putIn_47 : decode cX3_putIn 47 = .ok (.return_, 1) := by decide +kernel
theorem dX3_takeOut_0 : decode cX3_takeOut 0 = .ok (.aload_n 0, 1) := by decide +kernel
theorem dX3_takeOut_1 : decode cX3_takeOut 1 = .ok (.dup, 1) := by decide +kernel
theorem dX3_takeOut_2 : decode cX3_takeOut 2 = .ok (.getfield 79, 3) := by decide +kernel
theorem dX3_takeOut_5 : decode cX3_takeOut 5 = .ok (.iconst 1, 1) := by decide +kernel
theorem dX3_takeOut_6 : decode cX3_takeOut 6 = .ok (.isub, 1) := by decide +kernel
theorem dX3_takeOut_7 : decode cX3_takeOut 7 = .ok (.putfield 79, 3) := by decide +kernel
theorem dX3_takeOut_10 : decode cX3_takeOut 10 = .ok (.iload_n 1, 1) := by decide +kernel
theorem dX3_takeOut_11 : decode cX3_takeOut 11 = .ok (.istore_n 2, 1) := by decide +kernel
theorem dX3_takeOut_12 : decode cX3_takeOut 12 = .ok (.iload_n 2, 1) := by decide +kernel
theorem dX3_takeOut_13 : decode cX3_takeOut 13 = .ok (.aload_n 0, 1) := by decide +kernel
theorem dX3_takeOut_14 : decode cX3_takeOut 14 = .ok (.getfield 79, 3) := by decide +kernel
theorem dX3_takeOut_17 : decode cX3_takeOut 17 = .ok (.if_icmp .ge 23, 3) := by decide +kernel
theorem dX3_takeOut_20 : decode cX3_takeOut 20 = .ok (.aload_n 0, 1) := by decide +kernel
theorem dX3_takeOut_21 : decode cX3_takeOut 21 = .ok (.getfield 46, 3) := by decide +kernel
theorem dX3_takeOut_24 : decode cX3_takeOut 24 = .ok (.iload_n 2, 1) := by decide +kernel
theorem dX3_takeOut_25 : decode cX3_takeOut 25 = .ok (.aload_n 0, 1) := by decide +kernel
theorem dX3_takeOut_26 : decode cX3_takeOut 26 = .ok (.getfield 46, 3) := by decide +kernel
theorem dX3_takeOut_29 : decode cX3_takeOut 29 = .ok (.iload_n 2, 1) := by decide +kernel
theorem dX3_takeOut_30 : decode cX3_takeOut 30 = .ok (.iconst 1, 1) := by decide +kernel
theorem dX3_takeOut_31 : decode cX3_takeOut 31 = .ok (.iadd, 1) := by decide +kernel
theorem dX3_takeOut_32 : decode cX3_takeOut 32 = .ok (.iaload, 1) := by decide +kernel
theorem dX3_takeOut_33 : decode cX3_takeOut 33 = .ok (.iastore, 1) := by decide +kernel
theorem dX3_takeOut_34 : decode cX3_takeOut 34 = .ok (.iinc 2 1, 3) := by decide +kernel
theorem dX3_takeOut_37 : decode cX3_takeOut 37 = .ok (.goto (-25), 3) := by decide +kernel
theorem dX3_takeOut_40 : decode cX3_takeOut 40 = .ok (.return_, 1) := by decide +kernel
theorem dX3_insert_0 : decode cX3_insert 0 = .ok (.iconst (-1), 1) := by decide +kernel
theorem dX3_insert_1 : decode cX3_insert 1 = .ok (.istore_n 2, 1) := by decide +kernel
theorem dX3_insert_2 : decode cX3_insert 2 = .ok (.lconst 0, 1) := by decide +kernel
theorem dX3_insert_3 : decode cX3_insert 3 = .ok (.lstore_n 3, 1) := by decide +kernel
theorem dX3_insert_4 : decode cX3_insert 4 = .ok (.aload_n 0, 1) := by decide +kernel
theorem dX3_insert_5 : decode cX3_insert 5 = .ok (.getfield 84, 3) := by decide +kernel
theorem dX3_insert_8 : decode cX3_insert 8 = .ok (.istore 5, 2) := by decide +kernel
theorem dX3_insert_10 : decode cX3_insert 10 = .ok (.iload 5, 2) := by decide +kernel
theorem dX3_insert_12 : decode cX3_insert 12 = .ok (.aload_n 0, 1) := by decide +kernel
theorem dX3_insert_13 : decode cX3_insert 13 = .ok (.getfield 79, 3) := by decide +kernel
theorem dX3_insert_16 : decode cX3_insert 16 = .ok (.if_icmp .gt 45, 3) := by decide +kernel
theorem dX3_insert_19 : decode cX3_insert 19 = .ok (.aload_n 0, 1) := by decide +kernel
theorem dX3_insert_20 : decode cX3_insert 20 = .ok (.iload 5, 2) := by decide +kernel
theorem dX3_insert_22 : decode cX3_insert 22 = .ok (.iload_n 1, 1) := by decide +kernel
theorem dX3_insert_23 : decode cX3_insert 23 = .ok (.invokevirtual 103, 3) := by decide +kernel
theorem dX3_insert_26 : decode cX3_insert 26 = .ok (.aload_n 0, 1) := by decide +kernel
theorem dX3_insert_27 : decode cX3_insert 27 = .ok (.invokevirtual 107, 3) := by decide +kernel
theorem dX3_insert_30 : decode cX3_insert 30 = .ok (.lstore 6, 2) := by decide +kernel
theorem dX3_insert_32 : decode cX3_insert 32 = .ok (.aload_n 0, 1) := by decide +kernel
theorem dX3_insert_33 : decode cX3_insert 33 = .ok (.iload 5, 2) := by decide +kernel
theorem dX3_insert_35 : decode cX3_insert 35 = .ok (.invokevirtual 111, 3) := by decide +kernel
theorem dX3_insert_38 : decode cX3_insert 38 = .ok (.iload_n 2, 1) := by decide +kernel
theorem dX3_insert_39 : decode cX3_insert 39 = .ok (.ifCond .lt 10, 3) := by decide +kernel
theorem dX3_insert_42 : decode cX3_insert 42 = .ok (.lload 6, 2) := by decide +kernel
theorem dX3_insert_44 : decode cX3_insert 44 = .ok (.lload_n 3, 1) := by decide +kernel
theorem dX3_insert_45 : decode cX3_insert 45 = .ok (.lcmp, 1) := by decide +kernel
theorem dX3_insert_46 : decode cX3_insert 46 = .ok (.ifCond .ge 9, 3) := by decide +kernel
theorem dX3_insert_49 : decode cX3_insert 49 = .ok (.iload 5, 2) := by decide +kernel
theorem dX3_insert_51 : decode cX3_insert 51 = .ok (.istore_n 2, 1) := by decide +kernel
theorem dX3_insert_52 : decode cX3_insert 52 = .ok (.lload 6, 2) := by decide +kernel
theorem dX3_insert_54 : decode cX3_insert 54 = .ok (.lstore_n 3, 1) := by decide +kernel
theorem dX3_insert_55 : decode cX3_insert 55 = .ok (.iinc 5 1, 3) := by decide +kernel
theorem dX3_insert_58 : decode cX3_insert 58 = .ok (.goto (-48), 3) := by decide +kernel
theorem dX3_insert_61 : decode cX3_insert 61 = .ok (.aload_n 0, 1) := by decide +kernel
theorem dX3_insert_62 : decode cX3_insert 62 = .ok (.iload_n 2, 1) := by decide +kernel
theorem dX3_insert_63 : decode cX3_insert 63 = .ok (.iload_n 1, 1) := by decide +kernel
theorem dX3_insert_64 : decode cX3_insert 64 = .ok (.invokevirtual 103, 3) := by decide +kernel
theorem dX3_insert_67 : decode cX3_insert 67 = .ok (.iload_n 2, 1) := by decide +kernel
theorem dX3_insert_68 : decode cX3_insert 68 = .ok (.ireturn, 1) := by decide +kernel
theorem dX3_turn_0 : decode cX3_turn 0 = .ok (.aload_n 0, 1) := by decide +kernel
theorem dX3_turn_1 : decode cX3_turn 1 = .ok (.getfield 46, 3) := by decide +kernel
theorem dX3_turn_4 : decode cX3_turn 4 = .ok (.iload_n 1, 1) := by decide +kernel
theorem dX3_turn_5 : decode cX3_turn 5 = .ok (.iaload, 1) := by decide +kernel
theorem dX3_turn_6 : decode cX3_turn 6 = .ok (.istore_n 3, 1) := by decide +kernel
theorem dX3_turn_7 : decode cX3_turn 7 = .ok (.aload_n 0, 1) := by decide +kernel
theorem dX3_turn_8 : decode cX3_turn 8 = .ok (.getfield 46, 3) := by decide +kernel
theorem dX3_turn_11 : decode cX3_turn 11 = .ok (.iload_n 1, 1) := by decide +kernel
theorem dX3_turn_12 : decode cX3_turn 12 = .ok (.aload_n 0, 1) := by decide +kernel
theorem dX3_turn_13 : decode cX3_turn 13 = .ok (.getfield 46, 3) := by decide +kernel
theorem dX3_turn_16 : decode cX3_turn 16 = .ok (.iload_n 2, 1) := by decide +kernel
theorem dX3_turn_17 : decode cX3_turn 17 = .ok (.iaload, 1) := by decide +kernel
theorem dX3_turn_18 : decode cX3_turn 18 = .ok (.iastore, 1) := by decide +kernel
theorem dX3_turn_19 : decode cX3_turn 19 = .ok (.aload_n 0, 1) := by decide +kernel
theorem dX3_turn_20 : decode cX3_turn 20 = .ok (.getfield 46, 3) := by decide +kernel
theorem dX3_turn_23 : decode cX3_turn 23 = .ok (.iload_n 2, 1) := by decide +kernel
theorem dX3_turn_24 : decode cX3_turn 24 = .ok (.iload_n 3, 1) := by decide +kernel
theorem dX3_turn_25 : decode cX3_turn 25 = .ok (.iastore, 1) := by decide +kernel
theorem dX3_turn_26 : decode cX3_turn 26 = .ok (.return_, 1) := by decide +kernel
theorem dX3_better_0 : decode cX3_better 0 = .ok (.aload_n 0, 1) := by decide +kernel
theorem dX3_better_1 : decode cX3_better 1 = .ok (.invokevirtual 107, 3) := by decide +kernel
theorem dX3_better_4 : decode cX3_better 4 = .ok (.lstore_n 3, 1) := by decide +kernel
theorem dX3_better_5 : decode cX3_better 5 = .ok (.aload_n 0, 1) := by decide +kernel
theorem dX3_better_6 : decode cX3_better 6 = .ok (.iload_n 1, 1) := by decide +kernel
theorem dX3_better_7 : decode cX3_better 7 = .ok (.iload_n 2, 1) := by decide +kernel
theorem dX3_better_8 : decode cX3_better 8 = .ok (.invokevirtual 115, 3) := by decide +kernel
theorem dX3_better_11 : decode cX3_better 11 = .ok (.aload_n 0, 1) := by decide +kernel
theorem dX3_better_12 : decode cX3_better 12 = .ok (.invokevirtual 107, 3) := by decide +kernel
theorem dX3_better_15 : decode cX3_better 15 = .ok (.lload_n 3, 1) := by decide +kernel
theorem dX3_better_16 : decode cX3_better 16 = .ok (.lcmp, 1) := by decide +kernel
theorem dX3_better_17 : decode cX3_better 17 = .ok (.ifCond .ge 7, 3) := by decide +kernel
theorem dX3_better_20 : decode cX3_better 20 = .ok (.iconst 1, 1) := by decide +kernel
theorem dX3_better_21 : decode cX3_better 21 = .ok (.goto 4, 3) := by decide +kernel
theorem dX3_better_24 : decode cX3_better 24 = .ok (.iconst 0, 1) := by decide +kernel
theorem dX3_better_25 : decode cX3_better 25 = .ok (.istore 5, 2) := by decide +kernel
theorem dX3_better_27 : decode cX3_better 27 = .ok (.iload 5, 2) := by decide +kernel
theorem dX3_better_29 : decode cX3_better 29 = .ok (.ifCond .ne 9, 3) := by decide +kernel
theorem dX3_better_32 : decode cX3_better 32 = .ok (.aload_n 0, 1) := by decide +kernel
theorem dX3_better_33 : decode cX3_better 33 = .ok (.iload_n 1, 1) := by decide +kernel
theorem dX3_better_34 : decode cX3_better 34 = .ok (.iload_n 2, 1) := by decide +kernel
theorem dX3_better_35 : decode cX3_better 35 = .ok (.invokevirtual 115, 3) := by decide +kernel
theorem dX3_better_38 : decode cX3_better 38 = .ok (.iload 5, 2) := by decide +kernel
theorem dX3_better_40 : decode cX3_better 40 = .ok (.ireturn, 1) := by decide +kernel
theorem dX3_improve_0 : decode cX3_improve 0 = .ok (.lload_n 1, 1) := by decide +kernel
theorem dX3_improve_1 : decode cX3_improve 1 = .ok (.lstore_n 3, 1) := by decide +kernel
theorem dX3_improve_2 : decode cX3_improve 2 = .ok (.aload_n 0, 1) := by decide +kernel
theorem dX3_improve_3 : decode cX3_improve 3 = .ok (.getfield 84, 3) := by decide +kernel
theorem dX3_improve_6 : decode cX3_improve 6 = .ok (.istore 5, 2) := by decide +kernel
theorem dX3_improve_8 : decode cX3_improve 8 = .ok (.aload_n 0, 1) := by decide +kernel
theorem dX3_improve_9 : decode cX3_improve 9 = .ok (.getfield 84, 3) := by decide +kernel
theorem dX3_improve_12 : decode cX3_improve 12 = .ok (.iconst 1, 1) := by decide +kernel
theorem dX3_improve_13 : decode cX3_improve 13 = .ok (.iadd, 1) := by decide +kernel
theorem dX3_improve_14 : decode cX3_improve 14 = .ok (.istore 6, 2) := by decide +kernel
theorem dX3_improve_16 : decode cX3_improve 16 = .ok (.lload_n 3, 1) := by decide +kernel
theorem dX3_improve_17 : decode cX3_improve 17 = .ok (.lconst 0, 1) := by decide +kernel
theorem dX3_improve_18 : decode cX3_improve 18 = .ok (.lcmp, 1) := by decide +kernel
theorem dX3_improve_19 : decode cX3_improve 19 = .ok (.ifCond .le 92, 3) := by decide +kernel
theorem dX3_improve_22 : decode cX3_improve 22 = .ok (.iload 5, 2) := by decide +kernel
theorem dX3_improve_24 : decode cX3_improve 24 = .ok (.iconst 1, 1) := by decide +kernel
theorem dX3_improve_25 : decode cX3_improve 25 = .ok (.iadd, 1) := by decide +kernel
theorem dX3_improve_26 : decode cX3_improve 26 = .ok (.aload_n 0, 1) := by decide +kernel
theorem dX3_improve_27 : decode cX3_improve 27 = .ok (.getfield 79, 3) := by decide +kernel
theorem dX3_improve_30 : decode cX3_improve 30 = .ok (.if_icmp .ge 81, 3) := by decide +kernel
theorem dX3_improve_33 : decode cX3_improve 33 = .ok (.lload_n 3, 1) := by decide +kernel
theorem dX3_improve_34 : decode cX3_improve 34 = .ok (.lconst 1, 1) := by decide +kernel
theorem dX3_improve_35 : decode cX3_improve 35 = .ok (.lsub, 1) := by decide +kernel
theorem dX3_improve_36 : decode cX3_improve 36 = .ok (.lstore_n 3, 1) := by decide +kernel
theorem dX3_improve_37 : decode cX3_improve 37 = .ok (.aload_n 0, 1) := by decide +kernel
theorem dX3_improve_38 : decode cX3_improve 38 = .ok (.iload 5, 2) := by decide +kernel
theorem dX3_improve_40 : decode cX3_improve 40 = .ok (.iload 6, 2) := by decide +kernel
theorem dX3_improve_42 : decode cX3_improve 42 = .ok (.invokevirtual 118, 3) := by decide +kernel
theorem dX3_improve_45 : decode cX3_improve 45 = .ok (.ifCond .eq 20, 3) := by decide +kernel
theorem dX3_improve_48 : decode cX3_improve 48 = .ok (.aload_n 0, 1) := by decide +kernel
theorem dX3_improve_49 : decode cX3_improve 49 = .ok (.getfield 84, 3) := by decide +kernel
theorem dX3_improve_52 : decode cX3_improve 52 = .ok (.istore 5, 2) := by decide +kernel
theorem dX3_improve_54 : decode cX3_improve 54 = .ok (.aload_n 0, 1) := by decide +kernel
theorem dX3_improve_55 : decode cX3_improve 55 = .ok (.getfield 84, 3) := by decide +kernel
theorem dX3_improve_58 : decode cX3_improve 58 = .ok (.iconst 1, 1) := by decide +kernel
theorem dX3_improve_59 : decode cX3_improve 59 = .ok (.iadd, 1) := by decide +kernel
theorem dX3_improve_60 : decode cX3_improve 60 = .ok (.istore 6, 2) := by decide +kernel
theorem dX3_improve_62 : decode cX3_improve 62 = .ok (.goto (-46), 3) := by decide +kernel
theorem dX3_improve_65 : decode cX3_improve 65 = .ok (.iinc 6 1, 3) := by decide +kernel
theorem dX3_improve_68 : decode cX3_improve 68 = .ok (.iload 6, 2) := by decide +kernel
theorem dX3_improve_70 : decode cX3_improve 70 = .ok (.aload_n 0, 1) := by decide +kernel
theorem dX3_improve_71 : decode cX3_improve 71 = .ok (.getfield 79, 3) := by decide +kernel
theorem dX3_improve_74 : decode cX3_improve 74 = .ok (.if_icmp .ne 10, 3) := by decide +kernel
theorem dX3_improve_77 : decode cX3_improve 77 = .ok (.iload 5, 2) := by decide +kernel
theorem dX3_improve_79 : decode cX3_improve 79 = .ok (.iconst 1, 1) := by decide +kernel
theorem dX3_improve_80 : decode cX3_improve 80 = .ok (.iadd, 1) := by decide +kernel
theorem dX3_improve_81 : decode cX3_improve 81 = .ok (.goto 5, 3) := by decide +kernel
theorem dX3_improve_84 : decode cX3_improve 84 = .ok (.iload 5, 2) := by decide +kernel
theorem dX3_improve_86 : decode cX3_improve 86 = .ok (.istore 5, 2) := by decide +kernel
theorem dX3_improve_88 : decode cX3_improve 88 = .ok (.iload 6, 2) := by decide +kernel
theorem dX3_improve_90 : decode cX3_improve 90 = .ok (.aload_n 0, 1) := by decide +kernel
theorem dX3_improve_91 : decode cX3_improve 91 = .ok (.getfield 79, 3) := by decide +kernel
theorem dX3_improve_94 : decode cX3_improve 94 = .ok (.if_icmp .ne 10, 3) := by decide +kernel
theorem dX3_improve_97 : decode cX3_improve 97 = .ok (.iload 5, 2) := by decide +kernel
theorem dX3_improve_99 : decode cX3_improve 99 = .ok (.iconst 1, 1) := by decide +kernel
theorem dX3_improve_100 : decode cX3_improve 100 = .ok (.iadd, 1) := by decide +kernel
theorem dX3_improve_101 : decode cX3_improve 101 = .ok (.goto 5, 3) := by decide +kernel
theorem dX3_improve_104 : decode cX3_improve 104 = .ok (.iload 6, 2) := by decide +kernel
theorem dX3_improve_106 : decode cX3_improve 106 = .ok (.istore 6, 2) := by decide +kernel
theorem dX3_improve_108 : decode cX3_improve 108 = .ok (.goto (-92), 3) := by decide +kernel
theorem dX3_improve_111 : decode cX3_improve 111 = .ok (.return_, 1) := by decide +kernel
theorem dX3_keep_0 : decode cX3_keep 0 = .ok (.aload_n 0, 1) := by decide +kernel
theorem dX3_keep_1 : decode cX3_keep 1 = .ok (.iconst 1, 1) := by decide +kernel
theorem dX3_keep_2 : decode cX3_keep 2 = .ok (.putfield 61, 3) := by decide +kernel
theorem dX3_keep_5 : decode cX3_keep 5 = .ok (.aload_n 0, 1) := by decide +kernel
theorem dX3_keep_6 : decode cX3_keep 6 = .ok (.aload_n 0, 1) := by decide +kernel
theorem dX3_keep_7 : decode cX3_keep 7 = .ok (.getfield 79, 3) := by decide +kernel
theorem dX3_keep_10 : decode cX3_keep 10 = .ok (.putfield 122, 3) := by decide +kernel
theorem dX3_keep_13 : decode cX3_keep 13 = .ok (.iconst 0, 1) := by decide +kernel
theorem dX3_keep_14 : decode cX3_keep 14 = .ok (.istore_n 1, 1) := by decide +kernel
theorem dX3_keep_15 : decode cX3_keep 15 = .ok (.iload_n 1, 1) := by decide +kernel
theorem dX3_keep_16 : decode cX3_keep 16 = .ok (.aload_n 0, 1) := by decide +kernel
theorem dX3_keep_17 : decode cX3_keep 17 = .ok (.getfield 79, 3) := by decide +kernel
theorem dX3_keep_20 : decode cX3_keep 20 = .ok (.if_icmp .ge 21, 3) := by decide +kernel
theorem dX3_keep_23 : decode cX3_keep 23 = .ok (.aload_n 0, 1) := by decide +kernel
theorem dX3_keep_24 : decode cX3_keep 24 = .ok (.getfield 34, 3) := by decide +kernel
theorem dX3_keep_27 : decode cX3_keep 27 = .ok (.iload_n 1, 1) := by decide +kernel
theorem dX3_keep_28 : decode cX3_keep 28 = .ok (.aload_n 0, 1) := by decide +kernel
theorem dX3_keep_29 : decode cX3_keep 29 = .ok (.getfield 46, 3) := by decide +kernel
theorem dX3_keep_32 : decode cX3_keep 32 = .ok (.iload_n 1, 1) := by decide +kernel
theorem dX3_keep_33 : decode cX3_keep 33 = .ok (.iaload, 1) := by decide +kernel
theorem dX3_keep_34 : decode cX3_keep 34 = .ok (.iastore, 1) := by decide +kernel
theorem dX3_keep_35 : decode cX3_keep 35 = .ok (.iinc 1 1, 3) := by decide +kernel
theorem dX3_keep_38 : decode cX3_keep 38 = .ok (.goto (-23), 3) := by decide +kernel
theorem dX3_keep_41 : decode cX3_keep 41 = .ok (.return_, 1) := by decide +kernel
theorem dX3_solve_0 : decode cX3_solve 0 = .ok (.aload_n 0, 1) := by decide +kernel
theorem dX3_solve_1 : decode cX3_solve 1 = .ok (.iconst 0, 1) := by decide +kernel
theorem dX3_solve_2 : decode cX3_solve 2 = .ok (.putfield 51, 3) := by decide +kernel
theorem dX3_solve_5 : decode cX3_solve 5 = .ok (.lload_n 1, 1) := by decide +kernel
theorem dX3_solve_6 : decode cX3_solve 6 = .ok (.lconst 0, 1) := by decide +kernel
theorem dX3_solve_7 : decode cX3_solve 7 = .ok (.lcmp, 1) := by decide +kernel
theorem dX3_solve_8 : decode cX3_solve 8 = .ok (.ifCond .lt 11, 3) := by decide +kernel
theorem dX3_solve_11 : decode cX3_solve 11 = .ok (.lload_n 1, 1) := by decide +kernel
theorem dX3_solve_12 : decode cX3_solve 12 = .ok (.ldc2_w 57, 3) := by decide +kernel
theorem dX3_solve_15 : decode cX3_solve 15 = .ok (.lcmp, 1) := by decide +kernel
theorem dX3_solve_16 : decode cX3_solve 16 = .ok (.ifCond .le 7, 3) := by decide +kernel
theorem dX3_solve_19 : decode cX3_solve 19 = .ok (.ldc2_w 125, 3) := by decide +kernel
theorem dX3_solve_22 : decode cX3_solve 22 = .ok (.lreturn, 1) := by decide +kernel
theorem dX3_solve_23 : decode cX3_solve 23 = .ok (.aload_n 0, 1) := by decide +kernel
theorem dX3_solve_24 : decode cX3_solve 24 = .ok (.iconst 0, 1) := by decide +kernel
theorem dX3_solve_25 : decode cX3_solve 25 = .ok (.putfield 65, 3) := by decide +kernel
theorem dX3_solve_28 : decode cX3_solve 28 = .ok (.aload_n 0, 1) := by decide +kernel
theorem dX3_solve_29 : decode cX3_solve 29 = .ok (.getfield 23, 3) := by decide +kernel
theorem dX3_solve_32 : decode cX3_solve 32 = .ok (.ifCond .lt 23, 3) := by decide +kernel
theorem dX3_solve_35 : decode cX3_solve 35 = .ok (.aload_n 0, 1) := by decide +kernel
theorem dX3_solve_36 : decode cX3_solve 36 = .ok (.invokevirtual 75, 3) := by decide +kernel
theorem dX3_solve_39 : decode cX3_solve 39 = .ok (.aload_n 0, 1) := by decide +kernel
theorem dX3_solve_40 : decode cX3_solve 40 = .ok (.getfield 23, 3) := by decide +kernel
theorem dX3_solve_43 : decode cX3_solve 43 = .ok (.if_icmp .le 12, 3) := by decide +kernel
theorem dX3_solve_46 : decode cX3_solve 46 = .ok (.aload_n 0, 1) := by decide +kernel
theorem dX3_solve_47 : decode cX3_solve 47 = .ok (.iconst 0, 1) := by decide +kernel
theorem dX3_solve_48 : decode cX3_solve 48 = .ok (.putfield 61, 3) := by decide +kernel
theorem dX3_solve_51 : decode cX3_solve 51 = .ok (.ldc2_w 127, 3) := by decide +kernel
theorem dX3_solve_54 : decode cX3_solve 54 = .ok (.lreturn, 1) := by decide +kernel
theorem dX3_solve_55 : decode cX3_solve 55 = .ok (.aload_n 0, 1) := by decide +kernel
theorem dX3_solve_56 : decode cX3_solve 56 = .ok (.iconst 0, 1) := by decide +kernel
theorem dX3_solve_57 : decode cX3_solve 57 = .ok (.putfield 93, 3) := by decide +kernel
theorem dX3_solve_60 : decode cX3_solve 60 = .ok (.iconst 1, 1) := by decide +kernel
theorem dX3_solve_61 : decode cX3_solve 61 = .ok (.istore_n 3, 1) := by decide +kernel
theorem dX3_solve_62 : decode cX3_solve 62 = .ok (.iload_n 3, 1) := by decide +kernel
theorem dX3_solve_63 : decode cX3_solve 63 = .ok (.aload_n 0, 1) := by decide +kernel
theorem dX3_solve_64 : decode cX3_solve 64 = .ok (.getfield 54, 3) := by decide +kernel
theorem dX3_solve_67 : decode cX3_solve 67 = .ok (.if_icmp .gt 37, 3) := by decide +kernel
theorem dX3_solve_70 : decode cX3_solve 70 = .ok (.aload_n 0, 1) := by decide +kernel
theorem dX3_solve_71 : decode cX3_solve 71 = .ok (.iload_n 3, 1) := by decide +kernel
theorem dX3_solve_72 : decode cX3_solve 72 = .ok (.invokevirtual 129, 3) := by decide +kernel
theorem dX3_solve_75 : decode cX3_solve 75 = .ok (.ifCond .ne 23, 3) := by decide +kernel
theorem dX3_solve_78 : decode cX3_solve 78 = .ok (.aload_n 0, 1) := by decide +kernel
theorem dX3_solve_79 : decode cX3_solve 79 = .ok (.getfield 40, 3) := by decide +kernel
theorem dX3_solve_82 : decode cX3_solve 82 = .ok (.aload_n 0, 1) := by decide +kernel
theorem dX3_solve_83 : decode cX3_solve 83 = .ok (.getfield 93, 3) := by decide +kernel
theorem dX3_solve_86 : decode cX3_solve 86 = .ok (.iload_n 3, 1) := by decide +kernel
theorem dX3_solve_87 : decode cX3_solve 87 = .ok (.iastore, 1) := by decide +kernel
theorem dX3_solve_88 : decode cX3_solve 88 = .ok (.aload_n 0, 1) := by decide +kernel
theorem dX3_solve_89 : decode cX3_solve 89 = .ok (.dup, 1) := by decide +kernel
theorem dX3_solve_90 : decode cX3_solve 90 = .ok (.getfield 93, 3) := by decide +kernel
theorem dX3_solve_93 : decode cX3_solve 93 = .ok (.iconst 1, 1) := by decide +kernel
theorem dX3_solve_94 : decode cX3_solve 94 = .ok (.iadd, 1) := by decide +kernel
theorem dX3_solve_95 : decode cX3_solve 95 = .ok (.putfield 93, 3) := by decide +kernel
theorem dX3_solve_98 : decode cX3_solve 98 = .ok (.iinc 3 1, 3) := by decide +kernel
theorem dX3_solve_101 : decode cX3_solve 101 = .ok (.goto (-39), 3) := by decide +kernel
theorem dX3_solve_104 : decode cX3_solve 104 = .ok (.aload_n 0, 1) := by decide +kernel
theorem dX3_solve_105 : decode cX3_solve 105 = .ok (.aload_n 0, 1) := by decide +kernel
theorem dX3_solve_106 : decode cX3_solve 106 = .ok (.getfield 93, 3) := by decide +kernel
theorem dX3_solve_109 : decode cX3_solve 109 = .ok (.bipush 11, 2) := by decide +kernel
theorem dX3_solve_111 : decode cX3_solve 111 = .ok (.if_icmp .gt 14, 3) := by decide +kernel
theorem dX3_solve_114 : decode cX3_solve 114 = .ok (.aload_n 0, 1) := by decide +kernel
theorem dX3_solve_115 : decode cX3_solve 115 = .ok (.invokevirtual 132, 3) := by decide +kernel
theorem dX3_solve_118 : decode cX3_solve 118 = .ok (.ifCond .eq 7, 3) := by decide +kernel
theorem dX3_solve_121 : decode cX3_solve 121 = .ok (.iconst 1, 1) := by decide +kernel
theorem dX3_solve_122 : decode cX3_solve 122 = .ok (.goto 4, 3) := by decide +kernel
theorem dX3_solve_125 : decode cX3_solve 125 = .ok (.iconst 0, 1) := by decide +kernel
theorem dX3_solve_126 : decode cX3_solve 126 = .ok (.putfield 65, 3) := by decide +kernel
theorem dX3_solve_129 : decode cX3_solve 129 = .ok (.aload_n 0, 1) := by decide +kernel
theorem dX3_solve_130 : decode cX3_solve 130 = .ok (.getfield 65, 3) := by decide +kernel
theorem dX3_solve_133 : decode cX3_solve 133 = .ok (.ifCond .ne 72, 3) := by decide +kernel
theorem dX3_solve_136 : decode cX3_solve 136 = .ok (.aload_n 0, 1) := by decide +kernel
theorem dX3_solve_137 : decode cX3_solve 137 = .ok (.aload_n 0, 1) := by decide +kernel
theorem dX3_solve_138 : decode cX3_solve 138 = .ok (.getfield 84, 3) := by decide +kernel
theorem dX3_solve_141 : decode cX3_solve 141 = .ok (.putfield 79, 3) := by decide +kernel
theorem dX3_solve_144 : decode cX3_solve 144 = .ok (.iconst 0, 1) := by decide +kernel
theorem dX3_solve_145 : decode cX3_solve 145 = .ok (.istore_n 3, 1) := by decide +kernel
theorem dX3_solve_146 : decode cX3_solve 146 = .ok (.iload_n 3, 1) := by decide +kernel
theorem dX3_solve_147 : decode cX3_solve 147 = .ok (.aload_n 0, 1) := by decide +kernel
theorem dX3_solve_148 : decode cX3_solve 148 = .ok (.getfield 84, 3) := by decide +kernel
theorem dX3_solve_151 : decode cX3_solve 151 = .ok (.if_icmp .ge 21, 3) := by decide +kernel
theorem dX3_solve_154 : decode cX3_solve 154 = .ok (.aload_n 0, 1) := by decide +kernel
theorem dX3_solve_155 : decode cX3_solve 155 = .ok (.getfield 46, 3) := by decide +kernel
theorem dX3_solve_158 : decode cX3_solve 158 = .ok (.iload_n 3, 1) := by decide +kernel
theorem dX3_solve_159 : decode cX3_solve 159 = .ok (.aload_n 0, 1) := by decide +kernel
theorem dX3_solve_160 : decode cX3_solve 160 = .ok (.getfield 37, 3) := by decide +kernel
theorem dX3_solve_163 : decode cX3_solve 163 = .ok (.iload_n 3, 1) := by decide +kernel
theorem dX3_solve_164 : decode cX3_solve 164 = .ok (.iaload, 1) := by decide +kernel
theorem dX3_solve_165 : decode cX3_solve 165 = .ok (.iastore, 1) := by decide +kernel
theorem dX3_solve_166 : decode cX3_solve 166 = .ok (.iinc 3 1, 3) := by decide +kernel
theorem dX3_solve_169 : decode cX3_solve 169 = .ok (.goto (-23), 3) := by decide +kernel
theorem dX3_solve_172 : decode cX3_solve 172 = .ok (.iconst 0, 1) := by decide +kernel
theorem dX3_solve_173 : decode cX3_solve 173 = .ok (.istore_n 3, 1) := by decide +kernel
theorem dX3_solve_174 : decode cX3_solve 174 = .ok (.iload_n 3, 1) := by decide +kernel
theorem dX3_solve_175 : decode cX3_solve 175 = .ok (.aload_n 0, 1) := by decide +kernel
theorem dX3_solve_176 : decode cX3_solve 176 = .ok (.getfield 93, 3) := by decide +kernel
theorem dX3_solve_179 : decode cX3_solve 179 = .ok (.if_icmp .ge 21, 3) := by decide +kernel
theorem dX3_solve_182 : decode cX3_solve 182 = .ok (.aload_n 0, 1) := by decide +kernel
theorem dX3_solve_183 : decode cX3_solve 183 = .ok (.aload_n 0, 1) := by decide +kernel
theorem dX3_solve_184 : decode cX3_solve 184 = .ok (.getfield 40, 3) := by decide +kernel
theorem dX3_solve_187 : decode cX3_solve 187 = .ok (.iload_n 3, 1) := by decide +kernel
theorem dX3_solve_188 : decode cX3_solve 188 = .ok (.iaload, 1) := by decide +kernel
theorem dX3_solve_189 : decode cX3_solve 189 = .ok (.invokevirtual 136, 3) := by decide +kernel
theorem dX3_solve_192 : decode cX3_solve 192 = .ok (.istore 4, 2) := by decide +kernel
theorem dX3_solve_194 : decode cX3_solve 194 = .ok (.iinc 3 1, 3) := by decide +kernel
theorem dX3_solve_197 : decode cX3_solve 197 = .ok (.goto (-23), 3) := by decide +kernel
theorem dX3_solve_200 : decode cX3_solve 200 = .ok (.aload_n 0, 1) := by decide +kernel
theorem dX3_solve_201 : decode cX3_solve 201 = .ok (.lload_n 1, 1) := by decide +kernel
theorem dX3_solve_202 : decode cX3_solve 202 = .ok (.invokevirtual 140, 3) := by decide +kernel
theorem dX3_solve_205 : decode cX3_solve 205 = .ok (.aload_n 0, 1) := by decide +kernel
theorem dX3_solve_206 : decode cX3_solve 206 = .ok (.invokevirtual 144, 3) := by decide +kernel
theorem dX3_solve_209 : decode cX3_solve 209 = .ok (.aload_n 0, 1) := by decide +kernel
theorem dX3_solve_210 : decode cX3_solve 210 = .ok (.invokevirtual 107, 3) := by decide +kernel
theorem dX3_solve_213 : decode cX3_solve 213 = .ok (.ldc2_w 82, 3) := by decide +kernel
theorem dX3_solve_216 : decode cX3_solve 216 = .ok (.lrem, 1) := by decide +kernel
theorem dX3_solve_217 : decode cX3_solve 217 = .ok (.lreturn, 1) := by decide +kernel
theorem dX3_fetch_0 : decode cX3_fetch 0 = .ok (.aload_n 0, 1) := by decide +kernel
theorem dX3_fetch_1 : decode cX3_fetch 1 = .ok (.aload_n 0, 1) := by decide +kernel
theorem dX3_fetch_2 : decode cX3_fetch 2 = .ok (.getfield 122, 3) := by decide +kernel
theorem dX3_fetch_5 : decode cX3_fetch 5 = .ok (.putfield 79, 3) := by decide +kernel
theorem dX3_fetch_8 : decode cX3_fetch 8 = .ok (.iconst 0, 1) := by decide +kernel
theorem dX3_fetch_9 : decode cX3_fetch 9 = .ok (.istore_n 1, 1) := by decide +kernel
theorem dX3_fetch_10 : decode cX3_fetch 10 = .ok (.iload_n 1, 1) := by decide +kernel
theorem dX3_fetch_11 : decode cX3_fetch 11 = .ok (.aload_n 0, 1) := by decide +kernel
theorem dX3_fetch_12 : decode cX3_fetch 12 = .ok (.getfield 122, 3) := by decide +kernel
theorem dX3_fetch_15 : decode cX3_fetch 15 = .ok (.if_icmp .ge 21, 3) := by decide +kernel
theorem dX3_fetch_18 : decode cX3_fetch 18 = .ok (.aload_n 0, 1) := by decide +kernel
theorem dX3_fetch_19 : decode cX3_fetch 19 = .ok (.getfield 46, 3) := by decide +kernel
theorem dX3_fetch_22 : decode cX3_fetch 22 = .ok (.iload_n 1, 1) := by decide +kernel
theorem dX3_fetch_23 : decode cX3_fetch 23 = .ok (.aload_n 0, 1) := by decide +kernel
theorem dX3_fetch_24 : decode cX3_fetch 24 = .ok (.getfield 34, 3) := by decide +kernel
theorem dX3_fetch_27 : decode cX3_fetch 27 = .ok (.iload_n 1, 1) := by decide +kernel
theorem dX3_fetch_28 : decode cX3_fetch 28 = .ok (.iaload, 1) := by decide +kernel
theorem dX3_fetch_29 : decode cX3_fetch 29 = .ok (.iastore, 1) := by decide +kernel
theorem dX3_fetch_30 : decode cX3_fetch 30 = .ok (.iinc 1 1, 3) := by decide +kernel
theorem dX3_fetch_33 : decode cX3_fetch 33 = .ok (.goto (-23), 3) := by decide +kernel
theorem dX3_fetch_36 : decode cX3_fetch 36 = .ok (.return_, 1) := by decide +kernel
theorem dX3_at_0 : decode cX3_at 0 = .ok (.aload_n 0, 1) := by decide +kernel
theorem dX3_at_1 : decode cX3_at 1 = .ok (.aload_n 0, 1) := by decide +kernel
theorem dX3_at_2 : decode cX3_at 2 = .ok (.getfield 61, 3) := by decide +kernel
theorem dX3_at_5 : decode cX3_at 5 = .ok (.ifCond .eq 19, 3) := by decide +kernel
theorem dX3_at_8 : decode cX3_at 8 = .ok (.iload_n 1, 1) := by decide +kernel
theorem dX3_at_9 : decode cX3_at 9 = .ok (.ifCond .lt 15, 3) := by decide +kernel
theorem dX3_at_12 : decode cX3_at 12 = .ok (.iload_n 1, 1) := by decide +kernel
theorem dX3_at_13 : decode cX3_at 13 = .ok (.aload_n 0, 1) := by decide +kernel
theorem dX3_at_14 : decode cX3_at 14 = .ok (.getfield 122, 3) := by decide +kernel
theorem dX3_at_17 : decode cX3_at 17 = .ok (.if_icmp .ge 7, 3) := by decide +kernel
theorem dX3_at_20 : decode cX3_at 20 = .ok (.iconst 0, 1) := by decide +kernel
theorem dX3_at_21 : decode cX3_at 21 = .ok (.goto 4, 3) := by decide +kernel
theorem dX3_at_24 : decode cX3_at 24 = .ok (.iconst 1, 1) := by decide +kernel
theorem dX3_at_25 : decode cX3_at 25 = .ok (.putfield 51, 3) := by decide +kernel
theorem dX3_at_28 : decode cX3_at 28 = .ok (.aload_n 0, 1) := by decide +kernel
theorem dX3_at_29 : decode cX3_at 29 = .ok (.getfield 51, 3) := by decide +kernel
theorem dX3_at_32 : decode cX3_at 32 = .ok (.ifCond .le 7, 3) := by decide +kernel
theorem dX3_at_35 : decode cX3_at 35 = .ok (.iconst 0, 1) := by decide +kernel
theorem dX3_at_36 : decode cX3_at 36 = .ok (.goto 9, 3) := by decide +kernel
theorem dX3_at_39 : decode cX3_at 39 = .ok (.aload_n 0, 1) := by decide +kernel
theorem dX3_at_40 : decode cX3_at 40 = .ok (.getfield 34, 3) := by decide +kernel
theorem dX3_at_43 : decode cX3_at 43 = .ok (.iload_n 1, 1) := by decide +kernel
theorem dX3_at_44 : decode cX3_at 44 = .ok (.iaload, 1) := by decide +kernel
theorem dX3_at_45 : decode cX3_at 45 = .ok (.ireturn, 1) := by decide +kernel
theorem dX3_exact_0 : decode cX3_exact 0 = .ok (.aload_n 0, 1) := by decide +kernel
theorem dX3_exact_1 : decode cX3_exact 1 = .ok (.iconst 0, 1) := by decide +kernel
theorem dX3_exact_2 : decode cX3_exact 2 = .ok (.putfield 51, 3) := by decide +kernel
theorem dX3_exact_5 : decode cX3_exact 5 = .ok (.aload_n 0, 1) := by decide +kernel
theorem dX3_exact_6 : decode cX3_exact 6 = .ok (.getfield 65, 3) := by decide +kernel
theorem dX3_exact_9 : decode cX3_exact 9 = .ok (.ireturn, 1) := by decide +kernel
theorem dX3_late_0 : decode cX3_late 0 = .ok (.aload_n 0, 1) := by decide +kernel
theorem dX3_late_1 : decode cX3_late 1 = .ok (.iconst 0, 1) := by decide +kernel
theorem dX3_late_2 : decode cX3_late 2 = .ok (.putfield 51, 3) := by decide +kernel
theorem dX3_late_5 : decode cX3_late 5 = .ok (.aload_n 0, 1) := by decide +kernel
theorem dX3_late_6 : decode cX3_late 6 = .ok (.getfield 61, 3) := by decide +kernel
theorem dX3_late_9 : decode cX3_late 9 = .ok (.ifCond .ne 5, 3) := by decide +kernel
theorem dX3_late_12 : decode cX3_late 12 = .ok (.iconst 0, 1) := by decide +kernel
theorem dX3_late_13 : decode cX3_late 13 = .ok (.ireturn, 1) := by decide +kernel
theorem dX3_late_14 : decode cX3_late 14 = .ok (.lconst 0, 1) := by decide +kernel
theorem dX3_late_15 : decode cX3_late 15 = .ok (.lstore_n 2, 1) := by decide +kernel
theorem dX3_late_16 : decode cX3_late 16 = .ok (.iconst 0, 1) := by decide +kernel
theorem dX3_late_17 : decode cX3_late 17 = .ok (.istore 4, 2) := by decide +kernel
theorem dX3_late_19 : decode cX3_late 19 = .ok (.iconst 0, 1) := by decide +kernel
theorem dX3_late_20 : decode cX3_late 20 = .ok (.istore 5, 2) := by decide +kernel
theorem dX3_late_22 : decode cX3_late 22 = .ok (.iconst 0, 1) := by decide +kernel
theorem dX3_late_23 : decode cX3_late 23 = .ok (.istore 6, 2) := by decide +kernel
theorem dX3_late_25 : decode cX3_late 25 = .ok (.iload 6, 2) := by decide +kernel
theorem dX3_late_27 : decode cX3_late 27 = .ok (.aload_n 0, 1) := by decide +kernel
theorem dX3_late_28 : decode cX3_late 28 = .ok (.getfield 122, 3) := by decide +kernel
theorem dX3_late_31 : decode cX3_late 31 = .ok (.if_icmp .ge 98, 3) := by decide +kernel
theorem dX3_late_34 : decode cX3_late 34 = .ok (.aload_n 0, 1) := by decide +kernel
theorem dX3_late_35 : decode cX3_late 35 = .ok (.getfield 34, 3) := by decide +kernel
theorem dX3_late_38 : decode cX3_late 38 = .ok (.iload 6, 2) := by decide +kernel
theorem dX3_late_40 : decode cX3_late 40 = .ok (.iaload, 1) := by decide +kernel
theorem dX3_late_41 : decode cX3_late 41 = .ok (.istore 7, 2) := by decide +kernel
theorem dX3_late_43 : decode cX3_late 43 = .ok (.lload_n 2, 1) := by decide +kernel
theorem dX3_late_44 : decode cX3_late 44 = .ok (.aload_n 0, 1) := by decide +kernel
theorem dX3_late_45 : decode cX3_late 45 = .ok (.getfield 27, 3) := by decide +kernel
theorem dX3_late_48 : decode cX3_late 48 = .ok (.bipush 21, 2) := by decide +kernel
theorem dX3_late_50 : decode cX3_late 50 = .ok (.iload 4, 2) := by decide +kernel
theorem dX3_late_52 : decode cX3_late 52 = .ok (.imul, 1) := by decide +kernel
theorem dX3_late_53 : decode cX3_late 53 = .ok (.iload 7, 2) := by decide +kernel
theorem dX3_late_55 : decode cX3_late 55 = .ok (.iadd, 1) := by decide +kernel
theorem dX3_late_56 : decode cX3_late 56 = .ok (.laload, 1) := by decide +kernel
theorem dX3_late_57 : decode cX3_late 57 = .ok (.ladd, 1) := by decide +kernel
theorem dX3_late_58 : decode cX3_late 58 = .ok (.lstore 8, 2) := by decide +kernel
theorem dX3_late_60 : decode cX3_late 60 = .ok (.lload 8, 2) := by decide +kernel
theorem dX3_late_62 : decode cX3_late 62 = .ok (.aload_n 0, 1) := by decide +kernel
theorem dX3_late_63 : decode cX3_late 63 = .ok (.getfield 16, 3) := by decide +kernel
theorem dX3_late_66 : decode cX3_late 66 = .ok (.iload 7, 2) := by decide +kernel
theorem dX3_late_68 : decode cX3_late 68 = .ok (.laload, 1) := by decide +kernel
theorem dX3_late_69 : decode cX3_late 69 = .ok (.lcmp, 1) := by decide +kernel
theorem dX3_late_70 : decode cX3_late 70 = .ok (.ifCond .le 15, 3) := by decide +kernel
theorem dX3_late_73 : decode cX3_late 73 = .ok (.iload 5, 2) := by decide +kernel
theorem dX3_late_75 : decode cX3_late 75 = .ok (.iload_n 1, 1) := by decide +kernel
theorem dX3_late_76 : decode cX3_late 76 = .ok (.if_icmp .ne 6, 3) := by decide +kernel
theorem dX3_late_79 : decode cX3_late 79 = .ok (.iload 7, 2) := by decide +kernel
theorem dX3_late_81 : decode cX3_late 81 = .ok (.ireturn, 1) := by decide +kernel
theorem dX3_late_82 : decode cX3_late 82 = .ok (.iinc 5 1, 3) := by decide +kernel
theorem dX3_late_85 : decode cX3_late 85 = .ok (.lload 8, 2) := by decide +kernel
theorem dX3_late_87 : decode cX3_late 87 = .ok (.aload_n 0, 1) := by decide +kernel
theorem dX3_late_88 : decode cX3_late 88 = .ok (.getfield 13, 3) := by decide +kernel
theorem dX3_late_91 : decode cX3_late 91 = .ok (.iload 7, 2) := by decide +kernel
theorem dX3_late_93 : decode cX3_late 93 = .ok (.laload, 1) := by decide +kernel
theorem dX3_late_94 : decode cX3_late 94 = .ok (.lcmp, 1) := by decide +kernel
theorem dX3_late_95 : decode cX3_late 95 = .ok (.ifCond .ge 13, 3) := by decide +kernel
theorem dX3_late_98 : decode cX3_late 98 = .ok (.aload_n 0, 1) := by decide +kernel
theorem dX3_late_99 : decode cX3_late 99 = .ok (.getfield 13, 3) := by decide +kernel
theorem dX3_late_102 : decode cX3_late 102 = .ok (.iload 7, 2) := by decide +kernel
theorem dX3_late_104 : decode cX3_late 104 = .ok (.laload, 1) := by decide +kernel
theorem dX3_late_105 : decode cX3_late 105 = .ok (.goto 5, 3) := by decide +kernel
theorem dX3_late_108 : decode cX3_late 108 = .ok (.lload 8, 2) := by decide +kernel
theorem dX3_late_110 : decode cX3_late 110 = .ok (.aload_n 0, 1) := by decide +kernel
theorem dX3_late_111 : decode cX3_late 111 = .ok (.getfield 7, 3) := by decide +kernel
