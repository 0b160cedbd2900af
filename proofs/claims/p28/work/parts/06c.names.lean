theorem dJ9_min_f86c9_0 : decode cJ9_min_f86c9 0 = .ok (.lload_n 0, 1) := by decide +kernel
theorem dJ9_min_f86c9_1 : decode cJ9_min_f86c9 1 = .ok (.lload_n 2, 1) := by decide +kernel
theorem dJ9_min_f86c9_2 : decode cJ9_min_f86c9 2 = .ok (.lcmp, 1) := by decide +kernel
theorem dJ9_min_f86c9_3 : decode cJ9_min_f86c9 3 = .ok (.ifCond .gt 7, 3) := by decide +kernel
theorem dJ9_min_f86c9_6 : decode cJ9_min_f86c9 6 = .ok (.lload_n 0, 1) := by decide +kernel
theorem dJ9_min_f86c9_7 : decode cJ9_min_f86c9 7 = .ok (.goto 4, 3) := by decide +kernel
theorem dJ9_min_f86c9_10 : decode cJ9_min_f86c9 10 = .ok (.lload_n 2, 1) := by decide +kernel
theorem dJ9_min_f86c9_11 : decode cJ9_min_f86c9 11 = .ok (.lreturn, 1) := by decide +kernel
theorem dJ7_fill_d0a16_0 : decode cJ7_fill_d0a16 0 = .ok (.iconst 0, 1) := by decide +kernel
theorem dJ7_fill_d0a16_1 : decode cJ7_fill_d0a16 1 = .ok (.istore_n 3, 1) := by decide +kernel
theorem dJ7_fill_d0a16_2 : decode cJ7_fill_d0a16 2 = .ok (.aload_n 0, 1) := by decide +kernel
theorem dJ7_fill_d0a16_3 : decode cJ7_fill_d0a16 3 = .ok (.arraylength, 1) := by decide +kernel
theorem dJ7_fill_d0a16_4 : decode cJ7_fill_d0a16 4 = .ok (.istore 4, 2) := by decide +kernel
theorem dJ7_fill_d0a16_6 : decode cJ7_fill_d0a16 6 = .ok (.iload_n 3, 1) := by decide +kernel
theorem dJ7_fill_d0a16_7 : decode cJ7_fill_d0a16 7 = .ok (.iload 4, 2) := by decide +kernel
theorem dJ7_fill_d0a16_9 : decode cJ7_fill_d0a16 9 = .ok (.if_icmp .ge 13, 3) := by decide +kernel
theorem dJ7_fill_d0a16_12 : decode cJ7_fill_d0a16 12 = .ok (.aload_n 0, 1) := by decide +kernel
theorem dJ7_fill_d0a16_13 : decode cJ7_fill_d0a16 13 = .ok (.iload_n 3, 1) := by decide +kernel
theorem dJ7_fill_d0a16_14 : decode cJ7_fill_d0a16 14 = .ok (.lload_n 1, 1) := by decide +kernel
theorem dJ7_fill_d0a16_15 : decode cJ7_fill_d0a16 15 = .ok (.lastore, 1) := by decide +kernel
theorem dJ7_fill_d0a16_16 : decode cJ7_fill_d0a16 16 = .ok (.iinc 3 1, 3) := by decide +kernel
theorem dJ7_fill_d0a16_19 : decode cJ7_fill_d0a16 19 = .ok (.goto (-13), 3) := by decide +kernel
theorem dJ7_fill_d0a16_22 : decode cJ7_fill_d0a16 22 = .ok (.return_, 1) := by decide +kernel
theorem dJ7_fill_53178_0 : decode cJ7_fill_53178 0 = .ok (.iconst 0, 1) := by decide +kernel
theorem dJ7_fill_53178_1 : decode cJ7_fill_53178 1 = .ok (.istore_n 2, 1) := by decide +kernel
theorem dJ7_fill_53178_2 : decode cJ7_fill_53178 2 = .ok (.aload_n 0, 1) := by decide +kernel
theorem dJ7_fill_53178_3 : decode cJ7_fill_53178 3 = .ok (.arraylength, 1) := by decide +kernel
theorem dJ7_fill_53178_4 : decode cJ7_fill_53178 4 = .ok (.istore_n 3, 1) := by decide +kernel
theorem dJ7_fill_53178_5 : decode cJ7_fill_53178 5 = .ok (.iload_n 2, 1) := by decide +kernel
theorem dJ7_fill_53178_6 : decode cJ7_fill_53178 6 = .ok (.iload_n 3, 1) := by decide +kernel
theorem dJ7_fill_53178_7 : decode cJ7_fill_53178 7 = .ok (.if_icmp .ge 13, 3) := by decide +kernel
theorem dJ7_fill_53178_10 : decode cJ7_fill_53178 10 = .ok (.aload_n 0, 1) := by decide +kernel
theorem dJ7_fill_53178_11 : decode cJ7_fill_53178 11 = .ok (.iload_n 2, 1) := by decide +kernel
theorem dJ7_fill_53178_12 : decode cJ7_fill_53178 12 = .ok (.iload_n 1, 1) := by decide +kernel
theorem dJ7_fill_53178_13 : decode cJ7_fill_53178 13 = .ok (.iastore, 1) := by decide +kernel
theorem dJ7_fill_53178_14 : decode cJ7_fill_53178 14 = .ok (.iinc 2 1, 3) := by decide +kernel
theorem dJ7_fill_53178_17 : decode cJ7_fill_53178 17 = .ok (.goto (-12), 3) := by decide +kernel
theorem dJ7_fill_53178_20 : decode cJ7_fill_53178 20 = .ok (.return_, 1) := by decide +kernel
theorem dL_from_0 : decode cL_from 0 = .ok (.aload_n 0, 1) := by decide +kernel
theorem dL_from_1 : decode cL_from 1 = .ok (.arraylength, 1) := by decide +kernel
theorem dL_from_2 : decode cL_from 2 = .ok (.ifCond .ne 14, 3) := by decide +kernel
theorem dL_from_5 : decode cL_from 5 = .ok (.sipush 139, 3) := by decide +kernel
theorem dL_from_8 : decode cL_from 8 = .ok (.iload_n 1, 1) := by decide +kernel
theorem dL_from_9 : decode cL_from 9 = .ok (.imul, 1) := by decide +kernel
theorem dL_from_10 : decode cL_from 10 = .ok (.bipush 109, 2) := by decide +kernel
theorem dL_from_12 : decode cL_from 12 = .ok (.iadd, 1) := by decide +kernel
theorem dL_from_13 : decode cL_from 13 = .ok (.goto 14, 3) := by decide +kernel
theorem dL_from_16 : decode cL_from 16 = .ok (.aload_n 0, 1) := by decide +kernel
theorem dL_from_17 : decode cL_from 17 = .ok (.iload_n 1, 1) := by decide +kernel
theorem dL_from_18 : decode cL_from 18 = .ok (.aload_n 0, 1) := by decide +kernel
theorem dL_from_19 : decode cL_from 19 = .ok (.arraylength, 1) := by decide +kernel
theorem dL_from_20 : decode cL_from 20 = .ok (.irem, 1) := by decide +kernel
theorem dL_from_21 : decode cL_from 21 = .ok (.iaload, 1) := by decide +kernel
theorem dL_from_22 : decode cL_from 22 = .ok (.ldc 7, 2) := by decide +kernel
theorem dL_from_24 : decode cL_from 24 = .ok (.iload_n 1, 1) := by decide +kernel
theorem dL_from_25 : decode cL_from 25 = .ok (.imul, 1) := by decide +kernel
theorem dL_from_26 : decode cL_from 26 = .ok (.ixor, 1) := by decide +kernel
theorem dL_from_27 : decode cL_from 27 = .ok (.istore_n 3, 1) := by decide +kernel
theorem dL_from_28 : decode cL_from 28 = .ok (.iload_n 3, 1) := by decide +kernel
theorem dL_from_29 : decode cL_from 29 = .ok (.ldc 8, 2) := by decide +kernel
theorem dL_from_31 : decode cL_from 31 = .ok (.iand, 1) := by decide +kernel
theorem dL_from_32 : decode cL_from 32 = .ok (.iload_n 2, 1) := by decide +kernel
theorem dL_from_33 : decode cL_from 33 = .ok (.irem, 1) := by decide +kernel
theorem dL_from_34 : decode cL_from 34 = .ok (.ireturn, 1) := by decide +kernel
theorem dL_divide_0 : decode cL_divide 0 = .ok (.aload_n 2, 1) := by decide +kernel
theorem dL_divide_1 : decode cL_divide 1 = .ok (.iconst 0, 1) := by decide +kernel
theorem dL_divide_2 : decode cL_divide 2 = .ok (.laload, 1) := by decide +kernel
theorem dL_divide_3 : decode cL_divide 3 = .ok (.aload_n 2, 1) := by decide +kernel
theorem dL_divide_4 : decode cL_divide 4 = .ok (.iconst 1, 1) := by decide +kernel
theorem dL_divide_5 : decode cL_divide 5 = .ok (.laload, 1) := by decide +kernel
theorem dL_divide_6 : decode cL_divide 6 = .ok (.ladd, 1) := by decide +kernel
theorem dL_divide_7 : decode cL_divide 7 = .ok (.aload_n 2, 1) := by decide +kernel
theorem dL_divide_8 : decode cL_divide 8 = .ok (.iconst 2, 1) := by decide +kernel
theorem dL_divide_9 : decode cL_divide 9 = .ok (.laload, 1) := by decide +kernel
theorem dL_divide_10 : decode cL_divide 10 = .ok (.ladd, 1) := by decide +kernel
theorem dL_divide_11 : decode cL_divide 11 = .ok (.aload_n 2, 1) := by decide +kernel
theorem dL_divide_12 : decode cL_divide 12 = .ok (.iconst 3, 1) := by decide +kernel
theorem dL_divide_13 : decode cL_divide 13 = .ok (.laload, 1) := by decide +kernel
theorem dL_divide_14 : decode cL_divide 14 = .ok (.ladd, 1) := by decide +kernel
theorem dL_divide_15 : decode cL_divide 15 = .ok (.aload_n 2, 1) := by decide +kernel
theorem dL_divide_16 : decode cL_divide 16 = .ok (.iconst 4, 1) := by decide +kernel
theorem dL_divide_17 : decode cL_divide 17 = .ok (.laload, 1) := by decide +kernel
theorem dL_divide_18 : decode cL_divide 18 = .ok (.ladd, 1) := by decide +kernel
theorem dL_divide_19 : decode cL_divide 19 = .ok (.lstore 4, 2) := by decide +kernel
theorem dL_divide_21 : decode cL_divide 21 = .ok (.lload_n 0, 1) := by decide +kernel
theorem dL_divide_22 : decode cL_divide 22 = .ok (.lstore 6, 2) := by decide +kernel
theorem dL_divide_24 : decode cL_divide 24 = .ok (.iconst 0, 1) := by decide +kernel
theorem dL_divide_25 : decode cL_divide 25 = .ok (.istore 8, 2) := by decide +kernel
theorem dL_divide_27 : decode cL_divide 27 = .ok (.iconst 0, 1) := by decide +kernel
theorem dL_divide_28 : decode cL_divide 28 = .ok (.istore 9, 2) := by decide +kernel
theorem dL_divide_30 : decode cL_divide 30 = .ok (.iload 9, 2) := by decide +kernel
theorem dL_divide_32 : decode cL_divide 32 = .ok (.iconst 5, 1) := by decide +kernel
theorem dL_divide_33 : decode cL_divide 33 = .ok (.if_icmp .ge 31, 3) := by decide +kernel
theorem dL_divide_36 : decode cL_divide 36 = .ok (.aload_n 3, 1) := by decide +kernel
theorem dL_divide_37 : decode cL_divide 37 = .ok (.iload 9, 2) := by decide +kernel
theorem dL_divide_39 : decode cL_divide 39 = .ok (.lload_n 0, 1) := by decide +kernel
theorem dL_divide_40 : decode cL_divide 40 = .ok (.aload_n 2, 1) := by decide +kernel
theorem dL_divide_41 : decode cL_divide 41 = .ok (.iload 9, 2) := by decide +kernel
theorem dL_divide_43 : decode cL_divide 43 = .ok (.laload, 1) := by decide +kernel
theorem dL_divide_44 : decode cL_divide 44 = .ok (.lmul, 1) := by decide +kernel
theorem dL_divide_45 : decode cL_divide 45 = .ok (.lload 4, 2) := by decide +kernel
theorem dL_divide_47 : decode cL_divide 47 = .ok (.ldiv, 1) := by decide +kernel
theorem dL_divide_48 : decode cL_divide 48 = .ok (.lastore, 1) := by decide +kernel
theorem dL_divide_49 : decode cL_divide 49 = .ok (.lload 6, 2) := by decide +kernel
theorem dL_divide_51 : decode cL_divide 51 = .ok (.aload_n 3, 1) := by decide +kernel
theorem dL_divide_52 : decode cL_divide 52 = .ok (.iload 9, 2) := by decide +kernel
theorem dL_divide_54 : decode cL_divide 54 = .ok (.laload, 1) := by decide +kernel
theorem dL_divide_55 : decode cL_divide 55 = .ok (.lsub, 1) := by decide +kernel
theorem dL_divide_56 : decode cL_divide 56 = .ok (.lstore 6, 2) := by decide +kernel
theorem dL_divide_58 : decode cL_divide 58 = .ok (.iinc 9 1, 3) := by decide +kernel
theorem dL_divide_61 : decode cL_divide 61 = .ok (.goto (-31), 3) := by decide +kernel
theorem dL_divide_64 : decode cL_divide 64 = .ok (.lload 6, 2) := by decide +kernel
theorem dL_divide_66 : decode cL_divide 66 = .ok (.lconst 0, 1) := by decide +kernel
theorem dL_divide_67 : decode cL_divide 67 = .ok (.lcmp, 1) := by decide +kernel
theorem dL_divide_68 : decode cL_divide 68 = .ok (.ifCond .le 97, 3) := by decide +kernel
theorem dL_divide_71 : decode cL_divide 71 = .ok (.iconst (-1), 1) := by decide +kernel
theorem dL_divide_72 : decode cL_divide 72 = .ok (.istore 9, 2) := by decide +kernel
theorem dL_divide_74 : decode cL_divide 74 = .ok (.iconst 0, 1) := by decide +kernel
theorem dL_divide_75 : decode cL_divide 75 = .ok (.istore 10, 2) := by decide +kernel
theorem dL_divide_77 : decode cL_divide 77 = .ok (.iload 10, 2) := by decide +kernel
theorem dL_divide_79 : decode cL_divide 79 = .ok (.iconst 5, 1) := by decide +kernel
theorem dL_divide_80 : decode cL_divide 80 = .ok (.if_icmp .ge 59, 3) := by decide +kernel
theorem dL_divide_83 : decode cL_divide 83 = .ok (.lload_n 0, 1) := by decide +kernel
theorem dL_divide_84 : decode cL_divide 84 = .ok (.aload_n 2, 1) := by decide +kernel
theorem dL_divide_85 : decode cL_divide 85 = .ok (.iload 10, 2) := by decide +kernel
theorem dL_divide_87 : decode cL_divide 87 = .ok (.laload, 1) := by decide +kernel
theorem dL_divide_88 : decode cL_divide 88 = .ok (.lmul, 1) := by decide +kernel
theorem dL_divide_89 : decode cL_divide 89 = .ok (.lload 4, 2) := by decide +kernel
theorem dL_divide_91 : decode cL_divide 91 = .ok (.lrem, 1) := by decide +kernel
theorem dL_divide_92 : decode cL_divide 92 = .ok (.lstore 11, 2) := by decide +kernel
theorem dL_divide_94 : decode cL_divide 94 = .ok (.iload 8, 2) := by decide +kernel
theorem dL_divide_96 : decode cL_divide 96 = .ok (.iload 10, 2) := by decide +kernel
theorem dL_divide_98 : decode cL_divide 98 = .ok (.ishr, 1) := by decide +kernel
theorem dL_divide_99 : decode cL_divide 99 = .ok (.iconst 1, 1) := by decide +kernel
theorem dL_divide_100 : decode cL_divide 100 = .ok (.iand, 1) := by decide +kernel
theorem dL_divide_101 : decode cL_divide 101 = .ok (.ifCond .ne 28, 3) := by decide +kernel
theorem dL_divide_104 : decode cL_divide 104 = .ok (.iload 9, 2) := by decide +kernel
theorem dL_divide_106 : decode cL_divide 106 = .ok (.ifCond .lt 18, 3) := by decide +kernel
theorem dL_divide_109 : decode cL_divide 109 = .ok (.lload 11, 2) := by decide +kernel
theorem dL_divide_111 : decode cL_divide 111 = .ok (.lload_n 0, 1) := by decide +kernel
theorem dL_divide_112 : decode cL_divide 112 = .ok (.aload_n 2, 1) := by decide +kernel
theorem dL_divide_113 : decode cL_divide 113 = .ok (.iload 9, 2) := by decide +kernel
theorem dL_divide_115 : decode cL_divide 115 = .ok (.laload, 1) := by decide +kernel
theorem dL_divide_116 : decode cL_divide 116 = .ok (.lmul, 1) := by decide +kernel
theorem dL_divide_117 : decode cL_divide 117 = .ok (.lload 4, 2) := by decide +kernel
theorem dL_divide_119 : decode cL_divide 119 = .ok (.lrem, 1) := by decide +kernel
theorem dL_divide_120 : decode cL_divide 120 = .ok (.lcmp, 1) := by decide +kernel
theorem dL_divide_121 : decode cL_divide 121 = .ok (.ifCond .le 8, 3) := by decide +kernel
theorem dL_divide_124 : decode cL_divide 124 = .ok (.iload 10, 2) := by decide +kernel
theorem dL_divide_126 : decode cL_divide 126 = .ok (.goto 5, 3) := by decide +kernel
theorem dL_divide_129 : decode cL_divide 129 = .ok (.iload 9, 2) := by decide +kernel
theorem dL_divide_131 : decode cL_divide 131 = .ok (.istore 9, 2) := by decide +kernel
theorem dL_divide_133 : decode cL_divide 133 = .ok (.iinc 10 1, 3) := by decide +kernel
theorem dL_divide_136 : decode cL_divide 136 = .ok (.goto (-59), 3) := by decide +kernel
theorem dL_divide_139 : decode cL_divide 139 = .ok (.aload_n 3, 1) := by decide +kernel
theorem dL_divide_140 : decode cL_divide 140 = .ok (.iload 9, 2) := by decide +kernel
theorem dL_divide_142 : decode cL_divide 142 = .ok (.dup2, 1) := by decide +kernel
theorem dL_divide_143 : decode cL_divide 143 = .ok (.laload, 1) := by decide +kernel
theorem dL_divide_144 : decode cL_divide 144 = .ok (.lconst 1, 1) := by decide +kernel
theorem dL_divide_145 : decode cL_divide 145 = .ok (.ladd, 1) := by decide +kernel
theorem dL_divide_146 : decode cL_divide 146 = .ok (.lastore, 1) := by decide +kernel
theorem dL_divide_147 : decode cL_divide 147 = .ok (.iload 8, 2) := by decide +kernel
theorem dL_divide_149 : decode cL_divide 149 = .ok (.iconst 1, 1) := by decide +kernel
theorem dL_divide_150 : decode cL_divide 150 = .ok (.iload 9, 2) := by decide +kernel
theorem dL_divide_152 : decode cL_divide 152 = .ok (.ishl, 1) := by decide +kernel
theorem dL_divide_153 : decode cL_divide 153 = .ok (.ior, 1) := by decide +kernel
theorem dL_divide_154 : decode cL_divide 154 = .ok (.istore 8, 2) := by decide +kernel
theorem dL_divide_156 : decode cL_divide 156 = .ok (.lload 6, 2) := by decide +kernel
theorem dL_divide_158 : decode cL_divide 158 = .ok (.lconst 1, 1) := by decide +kernel
theorem dL_divide_159 : decode cL_divide 159 = .ok (.lsub, 1) := by decide +kernel
theorem dL_divide_160 : decode cL_divide 160 = .ok (.lstore 6, 2) := by decide +kernel
theorem dL_divide_162 : decode cL_divide 162 = .ok (.goto (-98), 3) := by decide +kernel
theorem dL_divide_165 : decode cL_divide 165 = .ok (.return_, 1) := by decide +kernel
set_option maxRecDepth 20000 in
theorem ggL_enter_L_divide : GoodIn wsL_enter wsL_divide := goodIn_r _ [6] (by decide +kernel) (by decide +kernel)
set_option maxRecDepth 20000 in
theorem gL_enter_L_divide : GoodIn wsL_enter (va_wsS RL 9 yL_divide wsL_divide) := goodIn_app (goodIn_of _ (by decide +kernel)) ggL_enter_L_divide
theorem dL_enter_0 : decode cL_enter 0 = .ok (.iconst 5, 1) := by decide +kernel
theorem dL_enter_1 : decode cL_enter 1 = .ok (.newarray .long, 2) := by decide +kernel
theorem dL_enter_3 : decode cL_enter 3 = .ok (.astore 7, 2) := by decide +kernel
theorem dL_enter_5 : decode cL_enter 5 = .ok (.iconst 5, 1) := by decide +kernel
theorem dL_enter_6 : decode cL_enter 6 = .ok (.newarray .long, 2) := by decide +kernel
theorem dL_enter_8 : decode cL_enter 8 = .ok (.astore 8, 2) := by decide +kernel
theorem dL_enter_10 : decode cL_enter 10 = .ok (.iconst 5, 1) := by decide +kernel
theorem dL_enter_11 : decode cL_enter 11 = .ok (.newarray .long, 2) := by decide +kernel
theorem dL_enter_13 : decode cL_enter 13 = .ok (.astore 9, 2) := by decide +kernel
theorem dL_enter_15 : decode cL_enter 15 = .ok (.iconst 5, 1) := by decide +kernel
theorem dL_enter_16 : decode cL_enter 16 = .ok (.newarray .long, 2) := by decide +kernel
theorem dL_enter_18 : decode cL_enter 18 = .ok (.astore 10, 2) := by decide +kernel
theorem dL_enter_20 : decode cL_enter 20 = .ok (.lconst 0, 1) := by decide +kernel
theorem dL_enter_21 : decode cL_enter 21 = .ok (.lstore 11, 2) := by decide +kernel
theorem dL_enter_23 : decode cL_enter 23 = .ok (.iconst 0, 1) := by decide +kernel
theorem dL_enter_24 : decode cL_enter 24 = .ok (.istore 13, 2) := by decide +kernel
theorem dL_enter_26 : decode cL_enter 26 = .ok (.iload 13, 2) := by decide +kernel
theorem dL_enter_28 : decode cL_enter 28 = .ok (.iconst 5, 1) := by decide +kernel
theorem dL_enter_29 : decode cL_enter 29 = .ok (.if_icmp .ge 42, 3) := by decide +kernel
theorem dL_enter_32 : decode cL_enter 32 = .ok (.aload 7, 2) := by decide +kernel
theorem dL_enter_34 : decode cL_enter 34 = .ok (.iload 13, 2) := by decide +kernel
theorem dL_enter_36 : decode cL_enter 36 = .ok (.aload_n 0, 1) := by decide +kernel
theorem dL_enter_37 : decode cL_enter 37 = .ok (.iload 13, 2) := by decide +kernel
theorem dL_enter_39 : decode cL_enter 39 = .ok (.iaload, 1) := by decide +kernel
theorem dL_enter_40 : decode cL_enter 40 = .ok (.i2l, 1) := by decide +kernel
theorem dL_enter_41 : decode cL_enter 41 = .ok (.lastore, 1) := by decide +kernel
theorem dL_enter_42 : decode cL_enter 42 = .ok (.aload 8, 2) := by decide +kernel
theorem dL_enter_44 : decode cL_enter 44 = .ok (.iload 13, 2) := by decide +kernel
theorem dL_enter_46 : decode cL_enter 46 = .ok (.aload_n 2, 1) := by decide +kernel
theorem dL_enter_47 : decode cL_enter 47 = .ok (.iload 13, 2) := by decide +kernel
theorem dL_enter_49 : decode cL_enter 49 = .ok (.laload, 1) := by decide +kernel
theorem dL_enter_50 : decode cL_enter 50 = .ok (.lconst 1, 1) := by decide +kernel
theorem dL_enter_51 : decode cL_enter 51 = .ok (.lcmp, 1) := by decide +kernel
theorem dL_enter_52 : decode cL_enter 52 = .ok (.ifCond .ne 11, 3) := by decide +kernel
theorem dL_enter_55 : decode cL_enter 55 = .ok (.aload_n 0, 1) := by decide +kernel
theorem dL_enter_56 : decode cL_enter 56 = .ok (.iload 13, 2) := by decide +kernel
theorem dL_enter_58 : decode cL_enter 58 = .ok (.iaload, 1) := by decide +kernel
theorem dL_enter_59 : decode cL_enter 59 = .ok (.i2l, 1) := by decide +kernel
theorem dL_enter_60 : decode cL_enter 60 = .ok (.goto 4, 3) := by decide +kernel
theorem dL_enter_63 : decode cL_enter 63 = .ok (.lconst 0, 1) := by decide +kernel
theorem dL_enter_64 : decode cL_enter 64 = .ok (.lastore, 1) := by decide +kernel
theorem dL_enter_65 : decode cL_enter 65 = .ok (.iinc 13 1, 3) := by decide +kernel
theorem dL_enter_68 : decode cL_enter 68 = .ok (.goto (-42), 3) := by decide +kernel
theorem dL_enter_71 : decode cL_enter 71 = .ok (.lload_n 3, 1) := by decide +kernel
theorem dL_enter_72 : decode cL_enter 72 = .ok (.aload 7, 2) := by decide +kernel
theorem dL_enter_74 : decode cL_enter 74 = .ok (.aload 9, 2) := by decide +kernel
theorem dL_enter_76 : decode cL_enter 76 = .ok (.invokestatic 9, 3) := by decide +kernel
theorem dL_enter_79 : decode cL_enter 79 = .ok (.iconst 0, 1) := by decide +kernel
theorem dL_enter_80 : decode cL_enter 80 = .ok (.istore 13, 2) := by decide +kernel
theorem dL_enter_82 : decode cL_enter 82 = .ok (.iload 13, 2) := by decide +kernel
theorem dL_enter_84 : decode cL_enter 84 = .ok (.iconst 5, 1) := by decide +kernel
theorem dL_enter_85 : decode cL_enter 85 = .ok (.if_icmp .ge 242, 3) := by decide +kernel
theorem dL_enter_88 : decode cL_enter 88 = .ok (.aload_n 0, 1) := by decide +kernel
theorem dL_enter_89 : decode cL_enter 89 = .ok (.iload 13, 2) := by decide +kernel
theorem dL_enter_91 : decode cL_enter 91 = .ok (.iaload, 1) := by decide +kernel
theorem dL_enter_92 : decode cL_enter 92 = .ok (.ifCond .le 16, 3) := by decide +kernel
theorem dL_enter_95 : decode cL_enter 95 = .ok (.aload_n 2, 1) := by decide +kernel
theorem dL_enter_96 : decode cL_enter 96 = .ok (.iload 13, 2) := by decide +kernel
theorem dL_enter_98 : decode cL_enter 98 = .ok (.laload, 1) := by decide +kernel
theorem dL_enter_99 : decode cL_enter 99 = .ok (.lconst 0, 1) := by decide +kernel
theorem dL_enter_100 : decode cL_enter 100 = .ok (.lcmp, 1) := by decide +kernel
theorem dL_enter_101 : decode cL_enter 101 = .ok (.ifCond .ne 7, 3) := by decide +kernel
theorem dL_enter_104 : decode cL_enter 104 = .ok (.iconst 1, 1) := by decide +kernel
theorem dL_enter_105 : decode cL_enter 105 = .ok (.goto 4, 3) := by decide +kernel
theorem dL_enter_108 : decode cL_enter 108 = .ok (.iconst 0, 1) := by decide +kernel
theorem dL_enter_109 : decode cL_enter 109 = .ok (.istore 14, 2) := by decide +kernel
theorem dL_enter_111 : decode cL_enter 111 = .ok (.iload 5, 2) := by decide +kernel
theorem dL_enter_113 : decode cL_enter 113 = .ok (.ifCond .eq 110, 3) := by decide +kernel
theorem dL_enter_116 : decode cL_enter 116 = .ok (.iload 14, 2) := by decide +kernel
theorem dL_enter_118 : decode cL_enter 118 = .ok (.ifCond .eq 105, 3) := by decide +kernel
theorem dL_enter_121 : decode cL_enter 121 = .ok (.aload_n 2, 1) := by decide +kernel
theorem dL_enter_122 : decode cL_enter 122 = .ok (.iconst 5, 1) := by decide +kernel
theorem dL_enter_123 : decode cL_enter 123 = .ok (.iload 13, 2) := by decide +kernel
theorem dL_enter_125 : decode cL_enter 125 = .ok (.iadd, 1) := by decide +kernel
theorem dL_enter_126 : decode cL_enter 126 = .ok (.laload, 1) := by decide +kernel
theorem dL_enter_127 : decode cL_enter 127 = .ok (.aload 9, 2) := by decide +kernel
theorem dL_enter_129 : decode cL_enter 129 = .ok (.iload 13, 2) := by decide +kernel
theorem dL_enter_131 : decode cL_enter 131 = .ok (.laload, 1) := by decide +kernel
theorem dL_enter_132 : decode cL_enter 132 = .ok (.lcmp, 1) := by decide +kernel
theorem dL_enter_133 : decode cL_enter 133 = .ok (.ifCond .ge 12, 3) := by decide +kernel
theorem dL_enter_136 : decode cL_enter 136 = .ok (.aload_n 2, 1) := by decide +kernel
theorem dL_enter_137 : decode cL_enter 137 = .ok (.iconst 5, 1) := by decide +kernel
theorem dL_enter_138 : decode cL_enter 138 = .ok (.iload 13, 2) := by decide +kernel
theorem dL_enter_140 : decode cL_enter 140 = .ok (.iadd, 1) := by decide +kernel
theorem dL_enter_141 : decode cL_enter 141 = .ok (.laload, 1) := by decide +kernel
theorem dL_enter_142 : decode cL_enter 142 = .ok (.goto 8, 3) := by decide +kernel
theorem dL_enter_145 : decode cL_enter 145 = .ok (.aload 9, 2) := by decide +kernel
theorem dL_enter_147 : decode cL_enter 147 = .ok (.iload 13, 2) := by decide +kernel
theorem dL_enter_149 : decode cL_enter 149 = .ok (.laload, 1) := by decide +kernel
theorem dL_enter_150 : decode cL_enter 150 = .ok (.lstore 15, 2) := by decide +kernel
theorem dL_enter_152 : decode cL_enter 152 = .ok (.aload_n 2, 1) := by decide +kernel
theorem dL_enter_153 : decode cL_enter 153 = .ok (.iconst 5, 1) := by decide +kernel
theorem dL_enter_154 : decode cL_enter 154 = .ok (.iload 13, 2) := by decide +kernel
theorem dL_enter_156 : decode cL_enter 156 = .ok (.iadd, 1) := by decide +kernel
theorem dL_enter_157 : decode cL_enter 157 = .ok (.dup2, 1) := by decide +kernel
theorem dL_enter_158 : decode cL_enter 158 = .ok (.laload, 1) := by decide +kernel
theorem dL_enter_159 : decode cL_enter 159 = .ok (.lload 15, 2) := by decide +kernel
theorem dL_enter_161 : decode cL_enter 161 = .ok (.lsub, 1) := by decide +kernel
theorem dL_enter_162 : decode cL_enter 162 = .ok (.lastore, 1) := by decide +kernel
theorem dL_enter_163 : decode cL_enter 163 = .ok (.aload_n 2, 1) := by decide +kernel
theorem dL_enter_164 : decode cL_enter 164 = .ok (.bipush 20, 2) := by decide +kernel
theorem dL_enter_166 : decode cL_enter 166 = .ok (.iload 13, 2) := by decide +kernel
theorem dL_enter_168 : decode cL_enter 168 = .ok (.iadd, 1) := by decide +kernel
theorem dL_enter_169 : decode cL_enter 169 = .ok (.dup2, 1) := by decide +kernel
theorem dL_enter_170 : decode cL_enter 170 = .ok (.laload, 1) := by decide +kernel
theorem dL_enter_171 : decode cL_enter 171 = .ok (.aload 9, 2) := by decide +kernel
theorem dL_enter_173 : decode cL_enter 173 = .ok (.iload 13, 2) := by decide +kernel
theorem dL_enter_175 : decode cL_enter 175 = .ok (.laload, 1) := by decide +kernel
theorem dL_enter_176 : decode cL_enter 176 = .ok (.lload 15, 2) := by decide +kernel
theorem dL_enter_178 : decode cL_enter 178 = .ok (.lsub, 1) := by decide +kernel
theorem dL_enter_179 : decode cL_enter 179 = .ok (.ladd, 1) := by decide +kernel
theorem dL_enter_180 : decode cL_enter 180 = .ok (.lastore, 1) := by decide +kernel
theorem dL_enter_181 : decode cL_enter 181 = .ok (.lload 15, 2) := by decide +kernel
theorem dL_enter_183 : decode cL_enter 183 = .ok (.aload 8, 2) := by decide +kernel
theorem dL_enter_185 : decode cL_enter 185 = .ok (.aload 10, 2) := by decide +kernel
theorem dL_enter_187 : decode cL_enter 187 = .ok (.invokestatic 9, 3) := by decide +kernel
theorem dL_enter_190 : decode cL_enter 190 = .ok (.iconst 0, 1) := by decide +kernel
theorem dL_enter_191 : decode cL_enter 191 = .ok (.istore 17, 2) := by decide +kernel
theorem dL_enter_193 : decode cL_enter 193 = .ok (.iload 17, 2) := by decide +kernel
theorem dL_enter_195 : decode cL_enter 195 = .ok (.iconst 5, 1) := by decide +kernel
theorem dL_enter_196 : decode cL_enter 196 = .ok (.if_icmp .ge 24, 3) := by decide +kernel
theorem dL_enter_199 : decode cL_enter 199 = .ok (.aload_n 2, 1) := by decide +kernel
theorem dL_enter_200 : decode cL_enter 200 = .ok (.bipush 20, 2) := by decide +kernel
theorem dL_enter_202 : decode cL_enter 202 = .ok (.iload 17, 2) := by decide +kernel
theorem dL_enter_204 : decode cL_enter 204 = .ok (.iadd, 1) := by decide +kernel
theorem dL_enter_205 : decode cL_enter 205 = .ok (.dup2, 1) := by decide +kernel
theorem dL_enter_206 : decode cL_enter 206 = .ok (.laload, 1) := by decide +kernel
theorem dL_enter_207 : decode cL_enter 207 = .ok (.aload 10, 2) := by decide +kernel
theorem dL_enter_209 : decode cL_enter 209 = .ok (.iload 17, 2) := by decide +kernel
theorem dL_enter_211 : decode cL_enter 211 = .ok (.laload, 1) := by decide +kernel
theorem dL_enter_212 : decode cL_enter 212 = .ok (.ladd, 1) := by decide +kernel
theorem dL_enter_213 : decode cL_enter 213 = .ok (.lastore, 1) := by decide +kernel
theorem dL_enter_214 : decode cL_enter 214 = .ok (.iinc 17 1, 3) := by decide +kernel
theorem dL_enter_217 : decode cL_enter 217 = .ok (.goto (-24), 3) := by decide +kernel
theorem dL_enter_220 : decode cL_enter 220 = .ok (.goto 101, 3) := by decide +kernel
theorem dL_enter_223 : decode cL_enter 223 = .ok (.iload 5, 2) := by decide +kernel
theorem dL_enter_225 : decode cL_enter 225 = .ok (.ifCond .eq 21, 3) := by decide +kernel
theorem dL_enter_228 : decode cL_enter 228 = .ok (.aload_n 2, 1) := by decide +kernel
theorem dL_enter_229 : decode cL_enter 229 = .ok (.bipush 20, 2) := by decide +kernel
theorem dL_enter_231 : decode cL_enter 231 = .ok (.iload 13, 2) := by decide +kernel
theorem dL_enter_233 : decode cL_enter 233 = .ok (.iadd, 1) := by decide +kernel
theorem dL_enter_234 : decode cL_enter 234 = .ok (.dup2, 1) := by decide +kernel
theorem dL_enter_235 : decode cL_enter 235 = .ok (.laload, 1) := by decide +kernel
theorem dL_enter_236 : decode cL_enter 236 = .ok (.aload 9, 2) := by decide +kernel
theorem dL_enter_238 : decode cL_enter 238 = .ok (.iload 13, 2) := by decide +kernel
theorem dL_enter_240 : decode cL_enter 240 = .ok (.laload, 1) := by decide +kernel
theorem dL_enter_241 : decode cL_enter 241 = .ok (.ladd, 1) := by decide +kernel
theorem dL_enter_242 : decode cL_enter 242 = .ok (.lastore, 1) := by decide +kernel
theorem dL_enter_243 : decode cL_enter 243 = .ok (.goto 78, 3) := by decide +kernel
theorem dL_enter_246 : decode cL_enter 246 = .ok (.iload 14, 2) := by decide +kernel
theorem dL_enter_248 : decode cL_enter 248 = .ok (.ifCond .eq 58, 3) := by decide +kernel
theorem dL_enter_251 : decode cL_enter 251 = .ok (.aload 9, 2) := by decide +kernel
theorem dL_enter_253 : decode cL_enter 253 = .ok (.iload 13, 2) := by decide +kernel
theorem dL_enter_255 : decode cL_enter 255 = .ok (.laload, 1) := by decide +kernel
theorem dL_enter_256 : decode cL_enter 256 = .ok (.iload_n 1, 1) := by decide +kernel
theorem dL_enter_257 : decode cL_enter 257 = .ok (.i2l, 1) := by decide +kernel
theorem dL_enter_258 : decode cL_enter 258 = .ok (.lmul, 1) := by decide +kernel
theorem dL_enter_259 : decode cL_enter 259 = .ok (.lstore 15, 2) := by decide +kernel
theorem dL_enter_261 : decode cL_enter 261 = .ok (.aload_n 2, 1) := by decide +kernel
theorem dL_enter_262 : decode cL_enter 262 = .ok (.iconst 5, 1) := by decide +kernel
theorem dL_enter_263 : decode cL_enter 263 = .ok (.iload 13, 2) := by decide +kernel
theorem dL_enter_265 : decode cL_enter 265 = .ok (.iadd, 1) := by decide +kernel
theorem dL_enter_266 : decode cL_enter 266 = .ok (.dup2, 1) := by decide +kernel
theorem dL_enter_267 : decode cL_enter 267 = .ok (.laload, 1) := by decide +kernel
theorem dL_enter_268 : decode cL_enter 268 = .ok (.lload 15, 2) := by decide +kernel
theorem dL_enter_270 : decode cL_enter 270 = .ok (.ldc2_w 15, 3) := by decide +kernel
theorem dL_enter_273 : decode cL_enter 273 = .ok (.ldiv, 1) := by decide +kernel
theorem dL_enter_274 : decode cL_enter 274 = .ok (.lload 15, 2) := by decide +kernel
theorem dL_enter_276 : decode cL_enter 276 = .ok (.ldc2_w 15, 3) := by decide +kernel
theorem dL_enter_279 : decode cL_enter 279 = .ok (.lrem, 1) := by decide +kernel
theorem dL_enter_280 : decode cL_enter 280 = .ok (.lconst 0, 1) := by decide +kernel
theorem dL_enter_281 : decode cL_enter 281 = .ok (.lcmp, 1) := by decide +kernel
theorem dL_enter_282 : decode cL_enter 282 = .ok (.ifCond .ne 7, 3) := by decide +kernel
theorem dL_enter_285 : decode cL_enter 285 = .ok (.lconst 0, 1) := by decide +kernel
theorem dL_enter_286 : decode cL_enter 286 = .ok (.goto 4, 3) := by decide +kernel
theorem dL_enter_289 : decode cL_enter 289 = .ok (.lconst 1, 1) := by decide +kernel
theorem dL_enter_290 : decode cL_enter 290 = .ok (.ladd, 1) := by decide +kernel
theorem dL_enter_291 : decode cL_enter 291 = .ok (.ladd, 1) := by decide +kernel
theorem dL_enter_292 : decode cL_enter 292 = .ok (.lastore, 1) := by decide +kernel
theorem dL_enter_293 : decode cL_enter 293 = .ok (.lload 11, 2) := by decide +kernel
theorem dL_enter_295 : decode cL_enter 295 = .ok (.aload 9, 2) := by decide +kernel
theorem dL_enter_297 : decode cL_enter 297 = .ok (.iload 13, 2) := by decide +kernel
theorem dL_enter_299 : decode cL_enter 299 = .ok (.laload, 1) := by decide +kernel
theorem dL_enter_300 : decode cL_enter 300 = .ok (.ladd, 1) := by decide +kernel
theorem dL_enter_301 : decode cL_enter 301 = .ok (.lstore 11, 2) := by decide +kernel
theorem dL_enter_303 : decode cL_enter 303 = .ok (.goto 18, 3) := by decide +kernel
theorem dL_enter_306 : decode cL_enter 306 = .ok (.aload_n 2, 1) := by decide +kernel
theorem dL_enter_307 : decode cL_enter 307 = .ok (.bipush 15, 2) := by decide +kernel
theorem dL_enter_309 : decode cL_enter 309 = .ok (.iload 13, 2) := by decide +kernel
theorem dL_enter_311 : decode cL_enter 311 = .ok (.iadd, 1) := by decide +kernel
theorem dL_enter_312 : decode cL_enter 312 = .ok (.dup2, 1) := by decide +kernel
theorem dL_enter_313 : decode cL_enter 313 = .ok (.laload, 1) := by decide +kernel
theorem dL_enter_314 : decode cL_enter 314 = .ok (.aload 9, 2) := by decide +kernel
theorem dL_enter_316 : decode cL_enter 316 = .ok (.iload 13, 2) := by decide +kernel
theorem dL_enter_318 : decode cL_enter 318 = .ok (.laload, 1) := by decide +kernel
theorem dL_enter_319 : decode cL_enter 319 = .ok (.ladd, 1) := by decide +kernel
theorem dL_enter_320 : decode cL_enter 320 = .ok (.lastore, 1) := by decide +kernel
theorem dL_enter_321 : decode cL_enter 321 = .ok (.iinc 13 1, 3) := by decide +kernel
theorem dL_enter_324 : decode cL_enter 324 = .ok (.goto (-242), 3) := by decide +kernel
theorem dL_enter_327 : decode cL_enter 327 = .ok (.iload 5, 2) := by decide +kernel
theorem dL_enter_329 : decode cL_enter 329 = .ok (.ifCond .ne 42, 3) := by decide +kernel
theorem dL_enter_332 : decode cL_enter 332 = .ok (.lload 11, 2) := by decide +kernel
theorem dL_enter_334 : decode cL_enter 334 = .ok (.aload 8, 2) := by decide +kernel
theorem dL_enter_336 : decode cL_enter 336 = .ok (.aload 10, 2) := by decide +kernel
theorem dL_enter_338 : decode cL_enter 338 = .ok (.invokestatic 9, 3) := by decide +kernel
theorem dL_enter_341 : decode cL_enter 341 = .ok (.iconst 0, 1) := by decide +kernel
theorem dL_enter_342 : decode cL_enter 342 = .ok (.istore 13, 2) := by decide +kernel
theorem dL_enter_344 : decode cL_enter 344 = .ok (.iload 13, 2) := by decide +kernel
theorem dL_enter_346 : decode cL_enter 346 = .ok (.iconst 5, 1) := by decide +kernel
theorem dL_enter_347 : decode cL_enter 347 = .ok (.if_icmp .ge 24, 3) := by decide +kernel
theorem dL_enter_350 : decode cL_enter 350 = .ok (.aload_n 2, 1) := by decide +kernel
theorem dL_enter_351 : decode cL_enter 351 = .ok (.bipush 15, 2) := by decide +kernel
theorem dL_enter_353 : decode cL_enter 353 = .ok (.iload 13, 2) := by decide +kernel
theorem dL_enter_355 : decode cL_enter 355 = .ok (.iadd, 1) := by decide +kernel
theorem dL_enter_356 : decode cL_enter 356 = .ok (.dup2, 1) := by decide +kernel
theorem dL_enter_357 : decode cL_enter 357 = .ok (.laload, 1) := by decide +kernel
theorem dL_enter_358 : decode cL_enter 358 = .ok (.aload 10, 2) := by decide +kernel
theorem dL_enter_360 : decode cL_enter 360 = .ok (.iload 13, 2) := by decide +kernel
theorem dL_enter_362 : decode cL_enter 362 = .ok (.laload, 1) := by decide +kernel
theorem dL_enter_363 : decode cL_enter 363 = .ok (.ladd, 1) := by decide +kernel
theorem dL_enter_364 : decode cL_enter 364 = .ok (.lastore, 1) := by decide +kernel
theorem dL_enter_365 : decode cL_enter 365 = .ok (.iinc 13 1, 3) := by decide +kernel
theorem dL_enter_368 : decode cL_enter 368 = .ok (.goto (-24), 3) := by decide +kernel
theorem dL_enter_371 : decode cL_enter 371 = .ok (.iconst 0, 1) := by decide +kernel
theorem dL_enter_372 : decode cL_enter 372 = .ok (.istore 13, 2) := by decide +kernel
theorem dL_enter_374 : decode cL_enter 374 = .ok (.iload 13, 2) := by decide +kernel
theorem dL_enter_376 : decode cL_enter 376 = .ok (.iconst 5, 1) := by decide +kernel
theorem dL_enter_377 : decode cL_enter 377 = .ok (.if_icmp .ge 56, 3) := by decide +kernel
theorem dL_enter_380 : decode cL_enter 380 = .ok (.iload 5, 2) := by decide +kernel
theorem dL_enter_382 : decode cL_enter 382 = .ok (.ifCond .eq 51, 3) := by decide +kernel
theorem dL_enter_385 : decode cL_enter 385 = .ok (.aload_n 0, 1) := by decide +kernel
theorem dL_enter_386 : decode cL_enter 386 = .ok (.iload 13, 2) := by decide +kernel
theorem dL_enter_388 : decode cL_enter 388 = .ok (.iaload, 1) := by decide +kernel
theorem dL_enter_389 : decode cL_enter 389 = .ok (.ifCond .le 38, 3) := by decide +kernel
theorem dL_enter_392 : decode cL_enter 392 = .ok (.aload_n 2, 1) := by decide +kernel
theorem dL_enter_393 : decode cL_enter 393 = .ok (.iload 13, 2) := by decide +kernel
theorem dL_enter_395 : decode cL_enter 395 = .ok (.laload, 1) := by decide +kernel
theorem dL_enter_396 : decode cL_enter 396 = .ok (.lconst 0, 1) := by decide +kernel
theorem dL_enter_397 : decode cL_enter 397 = .ok (.lcmp, 1) := by decide +kernel
theorem dL_enter_398 : decode cL_enter 398 = .ok (.ifCond .ne 29, 3) := by decide +kernel
theorem dL_enter_401 : decode cL_enter 401 = .ok (.aload_n 2, 1) := by decide +kernel
theorem dL_enter_402 : decode cL_enter 402 = .ok (.iconst 5, 1) := by decide +kernel
theorem dL_enter_403 : decode cL_enter 403 = .ok (.iload 13, 2) := by decide +kernel
theorem dL_enter_405 : decode cL_enter 405 = .ok (.iadd, 1) := by decide +kernel
theorem dL_enter_406 : decode cL_enter 406 = .ok (.laload, 1) := by decide +kernel
theorem dL_enter_407 : decode cL_enter 407 = .ok (.lconst 0, 1) := by decide +kernel
theorem dL_enter_408 : decode cL_enter 408 = .ok (.lcmp, 1) := by decide +kernel
theorem dL_enter_409 : decode cL_enter 409 = .ok (.ifCond .ne 18, 3) := by decide +kernel
theorem dL_enter_412 : decode cL_enter 412 = .ok (.aload_n 2, 1) := by decide +kernel
theorem dL_enter_413 : decode cL_enter 413 = .ok (.iload 13, 2) := by decide +kernel
theorem dL_enter_415 : decode cL_enter 415 = .ok (.lconst 1, 1) := by decide +kernel
theorem dL_enter_416 : decode cL_enter 416 = .ok (.lastore, 1) := by decide +kernel
theorem dL_enter_417 : decode cL_enter 417 = .ok (.aload_n 2, 1) := by decide +kernel
theorem dL_enter_418 : decode cL_enter 418 = .ok (.bipush 10, 2) := by decide +kernel
theorem dL_enter_420 : decode cL_enter 420 = .ok (.iload 13, 2) := by decide +kernel
theorem dL_enter_422 : decode cL_enter 422 = .ok (.iadd, 1) := by decide +kernel
theorem dL_enter_423 : decode cL_enter 423 = .ok (.iload 6, 2) := by decide +kernel
theorem dL_enter_425 : decode cL_enter 425 = .ok (.i2l, 1) := by decide +kernel
theorem dL_enter_426 : decode cL_enter 426 = .ok (.lastore, 1) := by decide +kernel
theorem dL_enter_427 : decode cL_enter 427 = .ok (.iinc 13 1, 3) := by decide +kernel
theorem dL_enter_430 : decode cL_enter 430 = .ok (.goto (-56), 3) := by decide +kernel
theorem dL_enter_433 : decode cL_enter 433 = .ok (.return_, 1) := by decide +kernel
set_option maxRecDepth 20000 in
theorem ggL_account_L_enter : GoodIn wsL_account wsL_enter := goodIn_r _ [5, 6, 7, 8, 9, 4, 10] (by decide +kernel) (by decide +kernel)
set_option maxRecDepth 20000 in
theorem gL_account_L_enter : GoodIn wsL_account (va_wsS RL 19 yL_enter wsL_enter) := goodIn_app (goodIn_of _ (by decide +kernel)) ggL_account_L_enter
theorem dL_account_0 : decode cL_account 0 = .ok (.iconst 0, 1) := by decide +kernel
theorem dL_account_1 : decode cL_account 1 = .ok (.istore 7, 2) := by decide +kernel
theorem dL_account_3 : decode cL_account 3 = .ok (.iload 7, 2) := by decide +kernel
theorem dL_account_5 : decode cL_account 5 = .ok (.bipush 25, 2) := by decide +kernel
theorem dL_account_7 : decode cL_account 7 = .ok (.if_icmp .ge 62, 3) := by decide +kernel
theorem dL_account_10 : decode cL_account 10 = .ok (.aload 5, 2) := by decide +kernel
theorem dL_account_12 : decode cL_account 12 = .ok (.iload 7, 2) := by decide +kernel
theorem dL_account_14 : decode cL_account 14 = .ok (.iload 7, 2) := by decide +kernel
theorem dL_account_16 : decode cL_account 16 = .ok (.iconst 5, 1) := by decide +kernel
theorem dL_account_17 : decode cL_account 17 = .ok (.if_icmp .ge 30, 3) := by decide +kernel
theorem dL_account_20 : decode cL_account 20 = .ok (.aload_n 0, 1) := by decide +kernel
theorem dL_account_21 : decode cL_account 21 = .ok (.iload 7, 2) := by decide +kernel
theorem dL_account_23 : decode cL_account 23 = .ok (.iaload, 1) := by decide +kernel
theorem dL_account_24 : decode cL_account 24 = .ok (.ifCond .le 19, 3) := by decide +kernel
theorem dL_account_27 : decode cL_account 27 = .ok (.aload_n 1, 1) := by decide +kernel
theorem dL_account_28 : decode cL_account 28 = .ok (.iconst 5, 1) := by decide +kernel
theorem dL_account_29 : decode cL_account 29 = .ok (.iload 6, 2) := by decide +kernel
theorem dL_account_31 : decode cL_account 31 = .ok (.imul, 1) := by decide +kernel
theorem dL_account_32 : decode cL_account 32 = .ok (.iload 7, 2) := by decide +kernel
theorem dL_account_34 : decode cL_account 34 = .ok (.iadd, 1) := by decide +kernel
theorem dL_account_35 : decode cL_account 35 = .ok (.iaload, 1) := by decide +kernel
theorem dL_account_36 : decode cL_account 36 = .ok (.ifCond .ne 7, 3) := by decide +kernel
theorem dL_account_39 : decode cL_account 39 = .ok (.lconst 1, 1) := by decide +kernel
theorem dL_account_40 : decode cL_account 40 = .ok (.goto 22, 3) := by decide +kernel
theorem dL_account_43 : decode cL_account 43 = .ok (.lconst 0, 1) := by decide +kernel
theorem dL_account_44 : decode cL_account 44 = .ok (.goto 18, 3) := by decide +kernel
theorem dL_account_47 : decode cL_account 47 = .ok (.iload 7, 2) := by decide +kernel
theorem dL_account_49 : decode cL_account 49 = .ok (.iconst 5, 1) := by decide +kernel
theorem dL_account_50 : decode cL_account 50 = .ok (.idiv, 1) := by decide +kernel
theorem dL_account_51 : decode cL_account 51 = .ok (.iconst 2, 1) := by decide +kernel
theorem dL_account_52 : decode cL_account 52 = .ok (.if_icmp .ne 9, 3) := by decide +kernel
theorem dL_account_55 : decode cL_account 55 = .ok (.ldc2_w 17, 3) := by decide +kernel
theorem dL_account_58 : decode cL_account 58 = .ok (.goto 4, 3) := by decide +kernel
theorem dL_account_61 : decode cL_account 61 = .ok (.lconst 0, 1) := by decide +kernel
theorem dL_account_62 : decode cL_account 62 = .ok (.lastore, 1) := by decide +kernel
theorem dL_account_63 : decode cL_account 63 = .ok (.iinc 7 1, 3) := by decide +kernel
theorem dL_account_66 : decode cL_account 66 = .ok (.goto (-63), 3) := by decide +kernel
theorem dL_account_69 : decode cL_account 69 = .ok (.iconst 0, 1) := by decide +kernel
theorem dL_account_70 : decode cL_account 70 = .ok (.istore 7, 2) := by decide +kernel
theorem dL_account_72 : decode cL_account 72 = .ok (.iload 7, 2) := by decide +kernel
theorem dL_account_74 : decode cL_account 74 = .ok (.aload 4, 2) := by decide +kernel
theorem dL_account_76 : decode cL_account 76 = .ok (.iconst 1, 1) := by decide +kernel
theorem dL_account_77 : decode cL_account 77 = .ok (.iaload, 1) := by decide +kernel
theorem dL_account_78 : decode cL_account 78 = .ok (.if_icmp .ge 58, 3) := by decide +kernel
theorem dL_account_81 : decode cL_account 81 = .ok (.aload_n 3, 1) := by decide +kernel
theorem dL_account_82 : decode cL_account 82 = .ok (.iconst 3, 1) := by decide +kernel
theorem dL_account_83 : decode cL_account 83 = .ok (.iload 7, 2) := by decide +kernel
theorem dL_account_85 : decode cL_account 85 = .ok (.imul, 1) := by decide +kernel
theorem dL_account_86 : decode cL_account 86 = .ok (.iaload, 1) := by decide +kernel
theorem dL_account_87 : decode cL_account 87 = .ok (.iload 6, 2) := by decide +kernel
theorem dL_account_89 : decode cL_account 89 = .ok (.if_icmp .ne 41, 3) := by decide +kernel
theorem dL_account_92 : decode cL_account 92 = .ok (.aload_n 0, 1) := by decide +kernel
theorem dL_account_93 : decode cL_account 93 = .ok (.aload_n 2, 1) := by decide +kernel
theorem dL_account_94 : decode cL_account 94 = .ok (.iload 6, 2) := by decide +kernel
theorem dL_account_96 : decode cL_account 96 = .ok (.iaload, 1) := by decide +kernel
theorem dL_account_97 : decode cL_account 97 = .ok (.aload 5, 2) := by decide +kernel
theorem dL_account_99 : decode cL_account 99 = .ok (.aload_n 3, 1) := by decide +kernel
theorem dL_account_100 : decode cL_account 100 = .ok (.iconst 3, 1) := by decide +kernel
theorem dL_account_101 : decode cL_account 101 = .ok (.iload 7, 2) := by decide +kernel
theorem dL_account_103 : decode cL_account 103 = .ok (.imul, 1) := by decide +kernel
theorem dL_account_104 : decode cL_account 104 = .ok (.iconst 1, 1) := by decide +kernel
theorem dL_account_105 : decode cL_account 105 = .ok (.iadd, 1) := by decide +kernel
theorem dL_account_106 : decode cL_account 106 = .ok (.iaload, 1) := by decide +kernel
theorem dL_account_107 : decode cL_account 107 = .ok (.i2l, 1) := by decide +kernel
theorem dL_account_108 : decode cL_account 108 = .ok (.aload_n 3, 1) := by decide +kernel
theorem dL_account_109 : decode cL_account 109 = .ok (.iconst 3, 1) := by decide +kernel
theorem dL_account_110 : decode cL_account 110 = .ok (.iload 7, 2) := by decide +kernel
theorem dL_account_112 : decode cL_account 112 = .ok (.imul, 1) := by decide +kernel
theorem dL_account_113 : decode cL_account 113 = .ok (.iconst 2, 1) := by decide +kernel
theorem dL_account_114 : decode cL_account 114 = .ok (.iadd, 1) := by decide +kernel
theorem dL_account_115 : decode cL_account 115 = .ok (.iaload, 1) := by decide +kernel
theorem dL_account_116 : decode cL_account 116 = .ok (.iconst 1, 1) := by decide +kernel
theorem dL_account_117 : decode cL_account 117 = .ok (.if_icmp .ne 7, 3) := by decide +kernel
theorem dL_account_120 : decode cL_account 120 = .ok (.iconst 1, 1) := by decide +kernel
theorem dL_account_121 : decode cL_account 121 = .ok (.goto 4, 3) := by decide +kernel
theorem dL_account_124 : decode cL_account 124 = .ok (.iconst 0, 1) := by decide +kernel
theorem dL_account_125 : decode cL_account 125 = .ok (.iload 7, 2) := by decide +kernel
theorem dL_account_127 : decode cL_account 127 = .ok (.invokestatic 19, 3) := by decide +kernel
theorem dL_account_130 : decode cL_account 130 = .ok (.iinc 7 1, 3) := by decide +kernel
theorem dL_account_133 : decode cL_account 133 = .ok (.goto (-61), 3) := by decide +kernel
theorem dL_account_136 : decode cL_account 136 = .ok (.return_, 1) := by decide +kernel
set_option maxRecDepth 20000 in
theorem ggL_weigh_L_account : GoodIn wsL_weigh wsL_account := goodIn_r _ [6, 7, 8, 9, 5, 10, 1, 11, 12, 13, 14] (by decide +kernel) (by decide +kernel)
set_option maxRecDepth 20000 in
theorem gL_weigh_L_account : GoodIn wsL_weigh (va_wsS RL 23 yL_account wsL_account) := goodIn_app (goodIn_of _ (by decide +kernel)) ggL_weigh_L_account
set_option maxRecDepth 20000 in
theorem ggL_weigh_L_enter : GoodIn wsL_weigh wsL_enter := goodIn_r _ [10, 1, 11, 12, 13, 5, 14] (by decide +kernel) (by decide +kernel)
set_option maxRecDepth 20000 in
theorem gL_weigh_L_enter : GoodIn wsL_weigh (va_wsS RL 19 yL_enter wsL_enter) := goodIn_app (goodIn_of _ (by decide +kernel)) ggL_weigh_L_enter
theorem dL_weigh_0 : decode cL_weigh 0 = .ok (.bipush 25, 2) := by decide +kernel
theorem dL_weigh_2 : decode cL_weigh 2 = .ok (.newarray .long, 2) := by decide +kernel
theorem dL_weigh_4 : decode cL_weigh 4 = .ok (.astore 7, 2) := by decide +kernel
theorem dL_weigh_6 : decode cL_weigh 6 = .ok (.aload_n 0, 1) := by decide +kernel
theorem dL_weigh_7 : decode cL_weigh 7 = .ok (.aload_n 1, 1) := by decide +kernel
theorem dL_weigh_8 : decode cL_weigh 8 = .ok (.aload_n 2, 1) := by decide +kernel
theorem dL_weigh_9 : decode cL_weigh 9 = .ok (.aload_n 3, 1) := by decide +kernel
theorem dL_weigh_10 : decode cL_weigh 10 = .ok (.aload 4, 2) := by decide +kernel
theorem dL_weigh_12 : decode cL_weigh 12 = .ok (.aload 7, 2) := by decide +kernel
theorem dL_weigh_14 : decode cL_weigh 14 = .ok (.iload 6, 2) := by decide +kernel
theorem dL_weigh_16 : decode cL_weigh 16 = .ok (.invokestatic 23, 3) := by decide +kernel
theorem dL_weigh_19 : decode cL_weigh 19 = .ok (.iconst 0, 1) := by decide +kernel
theorem dL_weigh_20 : decode cL_weigh 20 = .ok (.istore 8, 2) := by decide +kernel
theorem dL_weigh_22 : decode cL_weigh 22 = .ok (.iload 8, 2) := by decide +kernel
theorem dL_weigh_24 : decode cL_weigh 24 = .ok (.iconst 5, 1) := by decide +kernel
theorem dL_weigh_25 : decode cL_weigh 25 = .ok (.if_icmp .ge 23, 3) := by decide +kernel
theorem dL_weigh_28 : decode cL_weigh 28 = .ok (.aload 5, 2) := by decide +kernel
theorem dL_weigh_30 : decode cL_weigh 30 = .ok (.iload 8, 2) := by decide +kernel
theorem dL_weigh_32 : decode cL_weigh 32 = .ok (.aload 7, 2) := by decide +kernel
theorem dL_weigh_34 : decode cL_weigh 34 = .ok (.bipush 15, 2) := by decide +kernel
theorem dL_weigh_36 : decode cL_weigh 36 = .ok (.iload 8, 2) := by decide +kernel
theorem dL_weigh_38 : decode cL_weigh 38 = .ok (.iadd, 1) := by decide +kernel
theorem dL_weigh_39 : decode cL_weigh 39 = .ok (.laload, 1) := by decide +kernel
theorem dL_weigh_40 : decode cL_weigh 40 = .ok (.lneg, 1) := by decide +kernel
theorem dL_weigh_41 : decode cL_weigh 41 = .ok (.lastore, 1) := by decide +kernel
theorem dL_weigh_42 : decode cL_weigh 42 = .ok (.iinc 8 1, 3) := by decide +kernel
theorem dL_weigh_45 : decode cL_weigh 45 = .ok (.goto (-23), 3) := by decide +kernel
theorem dL_weigh_48 : decode cL_weigh 48 = .ok (.aload_n 0, 1) := by decide +kernel
theorem dL_weigh_49 : decode cL_weigh 49 = .ok (.aload_n 2, 1) := by decide +kernel
theorem dL_weigh_50 : decode cL_weigh 50 = .ok (.iload 6, 2) := by decide +kernel
theorem dL_weigh_52 : decode cL_weigh 52 = .ok (.iaload, 1) := by decide +kernel
theorem dL_weigh_53 : decode cL_weigh 53 = .ok (.aload 7, 2) := by decide +kernel
theorem dL_weigh_55 : decode cL_weigh 55 = .ok (.ldc2_w 27, 3) := by decide +kernel
theorem dL_weigh_58 : decode cL_weigh 58 = .ok (.iconst 0, 1) := by decide +kernel
theorem dL_weigh_59 : decode cL_weigh 59 = .ok (.iconst 0, 1) := by decide +kernel
theorem dL_weigh_60 : decode cL_weigh 60 = .ok (.invokestatic 19, 3) := by decide +kernel
theorem dL_weigh_63 : decode cL_weigh 63 = .ok (.iconst 0, 1) := by decide +kernel
theorem dL_weigh_64 : decode cL_weigh 64 = .ok (.istore 8, 2) := by decide +kernel
theorem dL_weigh_66 : decode cL_weigh 66 = .ok (.iload 8, 2) := by decide +kernel
theorem dL_weigh_68 : decode cL_weigh 68 = .ok (.iconst 5, 1) := by decide +kernel
theorem dL_weigh_69 : decode cL_weigh 69 = .ok (.if_icmp .ge 25, 3) := by decide +kernel
theorem dL_weigh_72 : decode cL_weigh 72 = .ok (.aload 5, 2) := by decide +kernel
theorem dL_weigh_74 : decode cL_weigh 74 = .ok (.iload 8, 2) := by decide +kernel
theorem dL_weigh_76 : decode cL_weigh 76 = .ok (.dup2, 1) := by decide +kernel
theorem dL_weigh_77 : decode cL_weigh 77 = .ok (.laload, 1) := by decide +kernel
theorem dL_weigh_78 : decode cL_weigh 78 = .ok (.aload 7, 2) := by decide +kernel
theorem dL_weigh_80 : decode cL_weigh 80 = .ok (.bipush 15, 2) := by decide +kernel
theorem dL_weigh_82 : decode cL_weigh 82 = .ok (.iload 8, 2) := by decide +kernel
theorem dL_weigh_84 : decode cL_weigh 84 = .ok (.iadd, 1) := by decide +kernel
theorem dL_weigh_85 : decode cL_weigh 85 = .ok (.laload, 1) := by decide +kernel
theorem dL_weigh_86 : decode cL_weigh 86 = .ok (.ladd, 1) := by decide +kernel
theorem dL_weigh_87 : decode cL_weigh 87 = .ok (.lastore, 1) := by decide +kernel
theorem dL_weigh_88 : decode cL_weigh 88 = .ok (.iinc 8 1, 3) := by decide +kernel
theorem dL_weigh_91 : decode cL_weigh 91 = .ok (.goto (-25), 3) := by decide +kernel
theorem dL_weigh_94 : decode cL_weigh 94 = .ok (.return_, 1) := by decide +kernel
set_option maxRecDepth 20000 in
theorem ggL_isTold_X3_vouchers : GoodIn wsL_isTold wsX3_vouchers := goodIn_r _ [6, 7, 144, 145, 146, 147, 148, 149, 150, 151, 152, 153, 154, 155, 156, 157, 158] (by decide +kernel) (by decide +kernel)
set_option maxRecDepth 20000 in
theorem gL_isTold_X3_vouchers : GoodIn wsL_isTold (wsV RL 29 RX3 yX3_vouchers wsX3_vouchers) := goodIn_app (goodIn_of _ (by decide +kernel)) ggL_isTold_X3_vouchers
set_option maxRecDepth 20000 in
theorem ggL_isTold_X3_wellOf : GoodIn wsL_isTold wsX3_wellOf := goodIn_ca (goodIn_r _ [11, 12, 13, 14, 15, 5, 16, 17, 18, 7, 144, 145, 146, 147, 148, 149, 150, 151, 152, 153, 154, 155, 156, 157, 158] (by decide +kernel) (by decide +kernel)) (goodIn_sub (fun _ h => List.mem_cons_of_mem _ (List.mem_append_right _ h)) (by decide +kernel))
set_option maxRecDepth 20000 in
theorem gL_isTold_X3_wellOf : GoodIn wsL_isTold (wsV RL 35 RX3 yX3_wellOf wsX3_wellOf) := goodIn_app (goodIn_of _ (by decide +kernel)) ggL_isTold_X3_wellOf
set_option maxRecDepth 20000 in
theorem ggL_isTold_X3_amountOf : GoodIn wsL_isTold wsX3_amountOf := goodIn_ca (goodIn_r _ [22, 23, 13, 14, 15, 5, 16, 17, 18, 7, 144, 145, 146, 147, 148, 149, 150, 151, 152, 153, 154, 155, 156, 157, 158] (by decide +kernel) (by decide +kernel)) (goodIn_sub (fun _ h => List.mem_cons_of_mem _ (List.mem_append_right _ h)) (by decide +kernel))
set_option maxRecDepth 20000 in
theorem gL_isTold_X3_amountOf : GoodIn wsL_isTold (wsV RL 39 RX3 yX3_amountOf wsX3_amountOf) := goodIn_app (goodIn_of _ (by decide +kernel)) ggL_isTold_X3_amountOf
set_option maxRecDepth 20000 in
theorem ggL_isTold_L_account : GoodIn wsL_isTold wsL_account := goodIn_r _ [27, 28, 29, 30, 26, 31, 1, 32, 33, 34, 35] (by decide +kernel) (by decide +kernel)
set_option maxRecDepth 20000 in
theorem gL_isTold_L_account : GoodIn wsL_isTold (va_wsS RL 23 yL_account wsL_account) := goodIn_app (goodIn_of _ (by decide +kernel)) ggL_isTold_L_account
set_option maxRecDepth 20000 in
theorem ggL_isTold_L_weigh : GoodIn wsL_isTold wsL_weigh := goodIn_r _ [38, 1, 39, 24, 25, 26, 27, 28, 29, 30, 31, 32, 33, 34, 35] (by decide +kernel) (by decide +kernel)
set_option maxRecDepth 20000 in
theorem gL_isTold_L_weigh : GoodIn wsL_isTold (va_wsS RL 42 yL_weigh wsL_weigh) := goodIn_app (goodIn_of _ (by decide +kernel)) ggL_isTold_L_weigh
set_option maxRecDepth 20000 in
theorem ggL_isTold_X3_isIn : GoodIn wsL_isTold wsX3_isIn := goodIn_ca (goodIn_r _ [43, 44, 45, 46, 47, 5, 48, 17, 18, 49, 50, 51, 52, 53, 54, 55, 56, 57, 58, 59, 144, 145, 146, 147, 148, 149, 150, 151, 152, 153, 154, 155, 156, 157, 158, 159, 160, 161, 162, 163, 164, 165, 166] (by decide +kernel) (by decide +kernel)) (goodIn_sub (fun _ h => List.mem_cons_of_mem _ (List.mem_append_right _ h)) (by decide +kernel))
set_option maxRecDepth 20000 in
theorem gL_isTold_X3_isIn : GoodIn wsL_isTold (wsV RL 45 RX3 yX3_isIn wsX3_isIn) := goodIn_app (goodIn_of _ (by decide +kernel)) ggL_isTold_X3_isIn
set_option maxRecDepth 20000 in
theorem ggL_isTold_X3_toEarn : GoodIn wsL_isTold wsX3_toEarn := goodIn_ca (goodIn_r _ [63, 44, 64, 45, 46, 47, 5, 48, 17, 18, 49, 50, 51, 52, 53, 144, 145, 146, 147, 148, 149, 150, 151, 152, 153, 154, 155, 156, 157, 158, 159, 160, 161, 162, 163, 164, 165, 166] (by decide +kernel) (by decide +kernel)) (goodIn_sub (fun _ h => List.mem_cons_of_mem _ (List.mem_append_right _ h)) (by decide +kernel))
set_option maxRecDepth 20000 in
theorem gL_isTold_X3_toEarn : GoodIn wsL_isTold (wsV RL 49 RX3 yX3_toEarn wsX3_toEarn) := goodIn_app (goodIn_of _ (by decide +kernel)) ggL_isTold_X3_toEarn
set_option maxRecDepth 20000 in
theorem ggL_isTold_X3_backAt : GoodIn wsL_isTold wsX3_backAt := goodIn_ca (goodIn_r _ [68, 44, 69, 45, 46, 47, 5, 48, 17, 18, 49, 50, 51, 52, 53, 144, 145, 146, 147, 148, 149, 150, 151, 152, 153, 154, 155, 156, 157, 158, 159, 160, 161, 162, 163, 164, 165, 166] (by decide +kernel) (by decide +kernel)) (goodIn_sub (fun _ h => List.mem_cons_of_mem _ (List.mem_append_right _ h)) (by decide +kernel))
set_option maxRecDepth 20000 in
theorem gL_isTold_X3_backAt : GoodIn wsL_isTold (wsV RL 53 RX3 yX3_backAt wsX3_backAt) := goodIn_app (goodIn_of _ (by decide +kernel)) ggL_isTold_X3_backAt
set_option maxRecDepth 20000 in
theorem ggL_isTold_X3_charged : GoodIn wsL_isTold wsX3_charged := goodIn_ca (goodIn_r _ [73, 44, 74, 45, 46, 47, 5, 48, 17, 18, 49, 50, 51, 52, 53, 144, 145, 146, 147, 148, 149, 150, 151, 152, 153, 154, 155, 156, 157, 158, 159, 160, 161, 162, 163, 164, 165, 166] (by decide +kernel) (by decide +kernel)) (goodIn_sub (fun _ h => List.mem_cons_of_mem _ (List.mem_append_right _ h)) (by decide +kernel))
set_option maxRecDepth 20000 in
theorem gL_isTold_X3_charged : GoodIn wsL_isTold (wsV RL 57 RX3 yX3_charged wsX3_charged) := goodIn_app (goodIn_of _ (by decide +kernel)) ggL_isTold_X3_charged
set_option maxRecDepth 20000 in
theorem ggL_isTold_X3_credited : GoodIn wsL_isTold wsX3_credited := goodIn_ca (goodIn_r _ [78, 44, 79, 45, 46, 47, 5, 48, 17, 18, 49, 50, 51, 52, 53, 144, 145, 146, 147, 148, 149, 150, 151, 152, 153, 154, 155, 156, 157, 158, 159, 160, 161, 162, 163, 164, 165, 166] (by decide +kernel) (by decide +kernel)) (goodIn_sub (fun _ h => List.mem_cons_of_mem _ (List.mem_append_right _ h)) (by decide +kernel))
set_option maxRecDepth 20000 in
theorem gL_isTold_X3_credited : GoodIn wsL_isTold (wsV RL 60 RX3 yX3_credited wsX3_credited) := goodIn_app (goodIn_of _ (by decide +kernel)) ggL_isTold_X3_credited
set_option maxRecDepth 20000 in
theorem ggL_isTold_X3_weight : GoodIn wsL_isTold wsX3_weight := goodIn_ca (goodIn_r _ [83, 44, 84, 45, 46, 47, 5, 48, 17, 18, 49, 50, 51, 52, 53, 85, 86, 87, 88, 89, 59, 90, 91, 58, 92, 93, 94, 95, 96, 97, 98, 99, 100, 101, 102, 103, 104, 105, 106, 107, 108, 109, 110, 54, 55, 56, 57, 111, 112, 113, 114, 144, 145, 146, 147, 148, 149, 150, 151, 152, 153, 154, 155, 156, 157, 158, 159, 160, 161, 162, 163, 164, 165, 166, 167] (by decide +kernel) (by decide +kernel)) (goodIn_sub (fun _ h => List.mem_cons_of_mem _ (List.mem_append_right _ h)) (by decide +kernel))
set_option maxRecDepth 20000 in
theorem gL_isTold_X3_weight : GoodIn wsL_isTold (wsV RL 63 RX3 yX3_weight wsX3_weight) := goodIn_app (goodIn_of _ (by decide +kernel)) ggL_isTold_X3_weight
set_option maxRecDepth 20000 in
theorem ggL_isTold_X3_asked : GoodIn wsL_isTold wsX3_asked := goodIn_ca (goodIn_r _ [118, 119, 120, 121, 122, 123, 5, 124, 17, 18, 125, 50, 51, 52, 53, 144, 145, 146, 147, 148, 149, 150, 151, 152, 153, 154, 155, 156, 157, 158, 168, 169] (by decide +kernel) (by decide +kernel)) (goodIn_sub (fun _ h => List.mem_cons_of_mem _ (List.mem_append_right _ h)) (by decide +kernel))
set_option maxRecDepth 20000 in
theorem gL_isTold_X3_asked : GoodIn wsL_isTold (wsV RL 66 RX3 yX3_asked wsX3_asked) := goodIn_app (goodIn_of _ (by decide +kernel)) ggL_isTold_X3_asked
set_option maxRecDepth 20000 in
theorem ggL_isTold_X3_paid : GoodIn wsL_isTold wsX3_paid := goodIn_ca (goodIn_r _ [129, 50, 51, 52, 5, 53, 17, 18, 130, 131, 132, 133, 125, 119, 134, 144, 145, 146, 147, 148, 149, 150, 151, 152, 153, 154, 155, 156, 157, 158, 168, 169] (by decide +kernel) (by decide +kernel)) (goodIn_sub (fun _ h => List.mem_cons_of_mem _ (List.mem_append_right _ h)) (by decide +kernel))
set_option maxRecDepth 20000 in
theorem gL_isTold_X3_paid : GoodIn wsL_isTold (wsV RL 69 RX3 yX3_paid wsX3_paid) := goodIn_app (goodIn_of _ (by decide +kernel)) ggL_isTold_X3_paid
set_option maxRecDepth 20000 in
theorem ggL_isTold_X3_owes : GoodIn wsL_isTold wsX3_owes := goodIn_ca (goodIn_r _ [138, 139, 50, 51, 52, 5, 53, 17, 18, 144, 145, 146, 147, 148, 149, 150, 151, 152, 153, 154, 155, 156, 157, 158] (by decide +kernel) (by decide +kernel)) (goodIn_sub (fun _ h => List.mem_cons_of_mem _ (List.mem_append_right _ h)) (by decide +kernel))
set_option maxRecDepth 20000 in
theorem gL_isTold_X3_owes : GoodIn wsL_isTold (wsV RL 72 RX3 yX3_owes wsX3_owes) := goodIn_app (goodIn_of _ (by decide +kernel)) ggL_isTold_X3_owes
set_option maxRecDepth 20000 in
theorem ggL_isTold_X3_balance : GoodIn wsL_isTold wsX3_balance := goodIn_ca (goodIn_r _ [143, 139, 49, 44, 79, 74, 50, 51, 52, 5, 53, 17, 18, 130, 131, 132, 133, 125, 119, 134, 144, 145, 146, 147, 148, 149, 150, 151, 152, 153, 154, 155, 156, 157, 158, 159, 160, 161, 162, 163, 164, 165, 166, 168, 169] (by decide +kernel) (by decide +kernel)) (goodIn_sub (fun _ h => List.mem_cons_of_mem _ (List.mem_append_right _ h)) (by decide +kernel))
set_option maxRecDepth 20000 in
theorem gL_isTold_X3_balance : GoodIn wsL_isTold (wsV RL 75 RX3 yX3_balance wsX3_balance) := goodIn_app (goodIn_of _ (by decide +kernel)) ggL_isTold_X3_balance
