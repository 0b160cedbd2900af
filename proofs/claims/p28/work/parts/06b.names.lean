set_option maxRecDepth 20000 in
theorem ggX3_init_X1_init : GoodIn wsX3_init wsX1_init := goodIn_r _ [30, 31, 2, 3, 32, 33, 71] (by decide +kernel) (by decide +kernel)
set_option maxRecDepth 20000 in
theorem gX3_init_X1_init_n52 : GoodIn wsX3_init (wsX1_init) := ggX3_init_X1_init
set_option maxRecDepth 20000 in
theorem ggX3_init_X2_init : GoodIn wsX3_init wsX2_init := goodIn_r _ [36, 37, 2, 3, 38, 39, 40, 41, 42, 32, 43, 4, 44, 45, 46, 47, 48, 49, 50, 72, 73, 74, 75, 76, 77, 78, 79] (by decide +kernel) (by decide +kernel)
set_option maxRecDepth 20000 in
theorem gX3_init_X2_init : GoodIn wsX3_init (wsX2_init) := ggX3_init_X2_init
set_option maxRecDepth 20000 in
theorem ggX3_init_X0_init : GoodIn wsX3_init wsX0_init := goodIn_r _ [52, 53, 2, 3, 4, 54, 55, 80, 81] (by decide +kernel) (by decide +kernel)
set_option maxRecDepth 20000 in
theorem gX3_init_X0_init_n67 : GoodIn wsX3_init (wsX0_init) := ggX3_init_X0_init
theorem dX3_init_0 : decode cX3_init 0 = .ok (.aload_n 0, 1) := by decide +kernel
theorem dX3_init_1 : decode cX3_init 1 = .ok (.invokespecial 1, 3) := by decide +kernel
theorem dX3_init_4 : decode cX3_init 4 = .ok (.aload_n 0, 1) := by decide +kernel
theorem dX3_init_5 : decode cX3_init 5 = .ok (.iconst 5, 1) := by decide +kernel
theorem dX3_init_6 : decode cX3_init 6 = .ok (.newarray .int, 2) := by decide +kernel
theorem dX3_init_8 : decode cX3_init 8 = .ok (.putfield 9, 3) := by decide +kernel
theorem dX3_init_11 : decode cX3_init 11 = .ok (.aload_n 0, 1) := by decide +kernel
theorem dX3_init_12 : decode cX3_init 12 = .ok (.sipush 300, 3) := by decide +kernel
theorem dX3_init_15 : decode cX3_init 15 = .ok (.putfield 13, 3) := by decide +kernel
theorem dX3_init_18 : decode cX3_init 18 = .ok (.aload_n 0, 1) := by decide +kernel
theorem dX3_init_19 : decode cX3_init 19 = .ok (.iconst 0, 1) := by decide +kernel
theorem dX3_init_20 : decode cX3_init 20 = .ok (.putfield 17, 3) := by decide +kernel
theorem dX3_init_23 : decode cX3_init 23 = .ok (.aload_n 0, 1) := by decide +kernel
theorem dX3_init_24 : decode cX3_init 24 = .ok (.bipush 6, 2) := by decide +kernel
theorem dX3_init_26 : decode cX3_init 26 = .ok (.anewarray 20, 3) := by decide +kernel
theorem dX3_init_29 : decode cX3_init 29 = .ok (.putfield 22, 3) := by decide +kernel
theorem dX3_init_32 : decode cX3_init 32 = .ok (.aload_n 0, 1) := by decide +kernel
theorem dX3_init_33 : decode cX3_init 33 = .ok (.iconst 0, 1) := by decide +kernel
theorem dX3_init_34 : decode cX3_init 34 = .ok (.putfield 26, 3) := by decide +kernel
theorem dX3_init_37 : decode cX3_init 37 = .ok (.aload_n 0, 1) := by decide +kernel
theorem dX3_init_38 : decode cX3_init 38 = .ok (.bipush 60, 2) := by decide +kernel
theorem dX3_init_40 : decode cX3_init 40 = .ok (.newarray .int, 2) := by decide +kernel
theorem dX3_init_42 : decode cX3_init 42 = .ok (.putfield 29, 3) := by decide +kernel
theorem dX3_init_45 : decode cX3_init 45 = .ok (.aload_n 0, 1) := by decide +kernel
theorem dX3_init_46 : decode cX3_init 46 = .ok (.bipush 60, 2) := by decide +kernel
theorem dX3_init_48 : decode cX3_init 48 = .ok (.newarray .int, 2) := by decide +kernel
theorem dX3_init_50 : decode cX3_init 50 = .ok (.putfield 32, 3) := by decide +kernel
theorem dX3_init_53 : decode cX3_init 53 = .ok (.aload_n 0, 1) := by decide +kernel
theorem dX3_init_54 : decode cX3_init 54 = .ok (.iconst 0, 1) := by decide +kernel
theorem dX3_init_55 : decode cX3_init 55 = .ok (.putfield 35, 3) := by decide +kernel
theorem dX3_init_58 : decode cX3_init 58 = .ok (.aload_n 0, 1) := by decide +kernel
theorem dX3_init_59 : decode cX3_init 59 = .ok (.bipush 20, 2) := by decide +kernel
theorem dX3_init_61 : decode cX3_init 61 = .ok (.anewarray 38, 3) := by decide +kernel
theorem dX3_init_64 : decode cX3_init 64 = .ok (.putfield 40, 3) := by decide +kernel
theorem dX3_init_67 : decode cX3_init 67 = .ok (.aload_n 0, 1) := by decide +kernel
theorem dX3_init_68 : decode cX3_init 68 = .ok (.iconst 0, 1) := by decide +kernel
theorem dX3_init_69 : decode cX3_init 69 = .ok (.putfield 44, 3) := by decide +kernel
theorem dX3_init_72 : decode cX3_init 72 = .ok (.aload_n 0, 1) := by decide +kernel
theorem dX3_init_73 : decode cX3_init 73 = .ok (.iconst 5, 1) := by decide +kernel
theorem dX3_init_74 : decode cX3_init 74 = .ok (.newarray .int, 2) := by decide +kernel
theorem dX3_init_76 : decode cX3_init 76 = .ok (.putfield 47, 3) := by decide +kernel
theorem dX3_init_79 : decode cX3_init 79 = .ok (.aload_n 0, 1) := by decide +kernel
theorem dX3_init_80 : decode cX3_init 80 = .ok (.new 50, 3) := by decide +kernel
theorem dX3_init_83 : decode cX3_init 83 = .ok (.dup, 1) := by decide +kernel
theorem dX3_init_84 : decode cX3_init 84 = .ok (.invokespecial 52, 3) := by decide +kernel
theorem dX3_init_87 : decode cX3_init 87 = .ok (.putfield 53, 3) := by decide +kernel
theorem dX3_init_90 : decode cX3_init 90 = .ok (.aload_n 0, 1) := by decide +kernel
theorem dX3_init_91 : decode cX3_init 91 = .ok (.iconst 5, 1) := by decide +kernel
theorem dX3_init_92 : decode cX3_init 92 = .ok (.newarray .int, 2) := by decide +kernel
theorem dX3_init_94 : decode cX3_init 94 = .ok (.putfield 57, 3) := by decide +kernel
theorem dX3_init_97 : decode cX3_init 97 = .ok (.aload_n 0, 1) := by decide +kernel
theorem dX3_init_98 : decode cX3_init 98 = .ok (.iconst 5, 1) := by decide +kernel
theorem dX3_init_99 : decode cX3_init 99 = .ok (.newarray .int, 2) := by decide +kernel
theorem dX3_init_101 : decode cX3_init 101 = .ok (.putfield 60, 3) := by decide +kernel
theorem dX3_init_104 : decode cX3_init 104 = .ok (.aload_n 0, 1) := by decide +kernel
theorem dX3_init_105 : decode cX3_init 105 = .ok (.iconst 5, 1) := by decide +kernel
theorem dX3_init_106 : decode cX3_init 106 = .ok (.newarray .int, 2) := by decide +kernel
theorem dX3_init_108 : decode cX3_init 108 = .ok (.putfield 63, 3) := by decide +kernel
theorem dX3_init_111 : decode cX3_init 111 = .ok (.aload_n 0, 1) := by decide +kernel
theorem dX3_init_112 : decode cX3_init 112 = .ok (.getfield 9, 3) := by decide +kernel
theorem dX3_init_115 : decode cX3_init 115 = .ok (.iconst 0, 1) := by decide +kernel
theorem dX3_init_116 : decode cX3_init 116 = .ok (.sipush 10000, 3) := by decide +kernel
theorem dX3_init_119 : decode cX3_init 119 = .ok (.iastore, 1) := by decide +kernel
theorem dX3_init_120 : decode cX3_init 120 = .ok (.iconst 0, 1) := by decide +kernel
theorem dX3_init_121 : decode cX3_init 121 = .ok (.istore_n 1, 1) := by decide +kernel
theorem dX3_init_122 : decode cX3_init 122 = .ok (.iload_n 1, 1) := by decide +kernel
theorem dX3_init_123 : decode cX3_init 123 = .ok (.bipush 6, 2) := by decide +kernel
theorem dX3_init_125 : decode cX3_init 125 = .ok (.if_icmp .ge 22, 3) := by decide +kernel
theorem dX3_init_128 : decode cX3_init 128 = .ok (.aload_n 0, 1) := by decide +kernel
theorem dX3_init_129 : decode cX3_init 129 = .ok (.getfield 22, 3) := by decide +kernel
theorem dX3_init_132 : decode cX3_init 132 = .ok (.iload_n 1, 1) := by decide +kernel
theorem dX3_init_133 : decode cX3_init 133 = .ok (.new 20, 3) := by decide +kernel
theorem dX3_init_136 : decode cX3_init 136 = .ok (.dup, 1) := by decide +kernel
theorem dX3_init_137 : decode cX3_init 137 = .ok (.invokespecial 66, 3) := by decide +kernel
theorem dX3_init_140 : decode cX3_init 140 = .ok (.aastore, 1) := by decide +kernel
theorem dX3_init_141 : decode cX3_init 141 = .ok (.iinc 1 1, 3) := by decide +kernel
theorem dX3_init_144 : decode cX3_init 144 = .ok (.goto (-22), 3) := by decide +kernel
theorem dX3_init_147 : decode cX3_init 147 = .ok (.iconst 0, 1) := by decide +kernel
theorem dX3_init_148 : decode cX3_init 148 = .ok (.istore_n 1, 1) := by decide +kernel
theorem dX3_init_149 : decode cX3_init 149 = .ok (.iload_n 1, 1) := by decide +kernel
theorem dX3_init_150 : decode cX3_init 150 = .ok (.bipush 20, 2) := by decide +kernel
theorem dX3_init_152 : decode cX3_init 152 = .ok (.if_icmp .ge 22, 3) := by decide +kernel
theorem dX3_init_155 : decode cX3_init 155 = .ok (.aload_n 0, 1) := by decide +kernel
theorem dX3_init_156 : decode cX3_init 156 = .ok (.getfield 40, 3) := by decide +kernel
theorem dX3_init_159 : decode cX3_init 159 = .ok (.iload_n 1, 1) := by decide +kernel
theorem dX3_init_160 : decode cX3_init 160 = .ok (.new 38, 3) := by decide +kernel
theorem dX3_init_163 : decode cX3_init 163 = .ok (.dup, 1) := by decide +kernel
theorem dX3_init_164 : decode cX3_init 164 = .ok (.invokespecial 67, 3) := by decide +kernel
theorem dX3_init_167 : decode cX3_init 167 = .ok (.aastore, 1) := by decide +kernel
theorem dX3_init_168 : decode cX3_init 168 = .ok (.iinc 1 1, 3) := by decide +kernel
theorem dX3_init_171 : decode cX3_init 171 = .ok (.goto (-22), 3) := by decide +kernel
theorem dX3_init_174 : decode cX3_init 174 = .ok (.return_, 1) := by decide +kernel
set_option maxRecDepth 20000 in
theorem ggX3_setShares_X3_requireRange : GoodIn wsX3_setShares wsX3_requireRange := goodIn_ca (goodIn_r _ [11, 1, 2] (by decide +kernel) (by decide +kernel)) (goodIn_sub (fun _ h => List.mem_cons_of_mem _ (List.mem_append_left _ (List.mem_append_right _ h))) (by decide +kernel))
set_option maxRecDepth 20000 in
theorem gX3_setShares_X3_requireRange : GoodIn wsX3_setShares (wsV RX3 68 RX3 yX3_requireRange wsX3_requireRange) := goodIn_app (goodIn_of _ (by decide +kernel)) ggX3_setShares_X3_requireRange
theorem dX3_setShares_0 : decode cX3_setShares 0 = .ok (.aload_n 0, 1) := by decide +kernel
theorem dX3_setShares_1 : decode cX3_setShares 1 = .ok (.iload_n 1, 1) := by decide +kernel
theorem dX3_setShares_2 : decode cX3_setShares 2 = .ok (.iconst 0, 1) := by decide +kernel
theorem dX3_setShares_3 : decode cX3_setShares 3 = .ok (.sipush 10000, 3) := by decide +kernel
theorem dX3_setShares_6 : decode cX3_setShares 6 = .ok (.invokevirtual 68, 3) := by decide +kernel
theorem dX3_setShares_9 : decode cX3_setShares 9 = .ok (.aload_n 0, 1) := by decide +kernel
theorem dX3_setShares_10 : decode cX3_setShares 10 = .ok (.iload_n 2, 1) := by decide +kernel
theorem dX3_setShares_11 : decode cX3_setShares 11 = .ok (.iconst 0, 1) := by decide +kernel
theorem dX3_setShares_12 : decode cX3_setShares 12 = .ok (.sipush 10000, 3) := by decide +kernel
theorem dX3_setShares_15 : decode cX3_setShares 15 = .ok (.invokevirtual 68, 3) := by decide +kernel
theorem dX3_setShares_18 : decode cX3_setShares 18 = .ok (.aload_n 0, 1) := by decide +kernel
theorem dX3_setShares_19 : decode cX3_setShares 19 = .ok (.iload_n 3, 1) := by decide +kernel
theorem dX3_setShares_20 : decode cX3_setShares 20 = .ok (.iconst 0, 1) := by decide +kernel
theorem dX3_setShares_21 : decode cX3_setShares 21 = .ok (.sipush 10000, 3) := by decide +kernel
theorem dX3_setShares_24 : decode cX3_setShares 24 = .ok (.invokevirtual 68, 3) := by decide +kernel
theorem dX3_setShares_27 : decode cX3_setShares 27 = .ok (.aload_n 0, 1) := by decide +kernel
theorem dX3_setShares_28 : decode cX3_setShares 28 = .ok (.iload 4, 2) := by decide +kernel
theorem dX3_setShares_30 : decode cX3_setShares 30 = .ok (.iconst 0, 1) := by decide +kernel
theorem dX3_setShares_31 : decode cX3_setShares 31 = .ok (.sipush 10000, 3) := by decide +kernel
theorem dX3_setShares_34 : decode cX3_setShares 34 = .ok (.invokevirtual 68, 3) := by decide +kernel
theorem dX3_setShares_37 : decode cX3_setShares 37 = .ok (.aload_n 0, 1) := by decide +kernel
theorem dX3_setShares_38 : decode cX3_setShares 38 = .ok (.iload 5, 2) := by decide +kernel
theorem dX3_setShares_40 : decode cX3_setShares 40 = .ok (.iconst 0, 1) := by decide +kernel
theorem dX3_setShares_41 : decode cX3_setShares 41 = .ok (.sipush 10000, 3) := by decide +kernel
theorem dX3_setShares_44 : decode cX3_setShares 44 = .ok (.invokevirtual 68, 3) := by decide +kernel
theorem dX3_setShares_47 : decode cX3_setShares 47 = .ok (.iload_n 1, 1) := by decide +kernel
theorem dX3_setShares_48 : decode cX3_setShares 48 = .ok (.iload_n 2, 1) := by decide +kernel
theorem dX3_setShares_49 : decode cX3_setShares 49 = .ok (.iadd, 1) := by decide +kernel
theorem dX3_setShares_50 : decode cX3_setShares 50 = .ok (.iload_n 3, 1) := by decide +kernel
theorem dX3_setShares_51 : decode cX3_setShares 51 = .ok (.iadd, 1) := by decide +kernel
theorem dX3_setShares_52 : decode cX3_setShares 52 = .ok (.iload 4, 2) := by decide +kernel
theorem dX3_setShares_54 : decode cX3_setShares 54 = .ok (.iadd, 1) := by decide +kernel
theorem dX3_setShares_55 : decode cX3_setShares 55 = .ok (.iload 5, 2) := by decide +kernel
theorem dX3_setShares_57 : decode cX3_setShares 57 = .ok (.iadd, 1) := by decide +kernel
theorem dX3_setShares_58 : decode cX3_setShares 58 = .ok (.sipush 10000, 3) := by decide +kernel
theorem dX3_setShares_61 : decode cX3_setShares 61 = .ok (.if_icmp .eq 13, 3) := by decide +kernel
theorem dX3_setShares_64 : decode cX3_setShares 64 = .ok (.new 72, 3) := by decide +kernel
theorem dX3_setShares_67 : decode cX3_setShares 67 = .ok (.dup, 1) := by decide +kernel
theorem dX3_setShares_68 : decode cX3_setShares 68 = .ok (.ldc 74, 2) := by decide +kernel
theorem dX3_setShares_70 : decode cX3_setShares 70 = .ok (.invokespecial 76, 3) := by decide +kernel
theorem dX3_setShares_73 : decode cX3_setShares 73 = .ok (.athrow, 1) := by decide +kernel
theorem dX3_setShares_74 : decode cX3_setShares 74 = .ok (.aload_n 0, 1) := by decide +kernel
theorem dX3_setShares_75 : decode cX3_setShares 75 = .ok (.getfield 26, 3) := by decide +kernel
theorem dX3_setShares_78 : decode cX3_setShares 78 = .ok (.ifCond .le 13, 3) := by decide +kernel
theorem dX3_setShares_81 : decode cX3_setShares 81 = .ok (.new 79, 3) := by decide +kernel
theorem dX3_setShares_84 : decode cX3_setShares 84 = .ok (.dup, 1) := by decide +kernel
theorem dX3_setShares_85 : decode cX3_setShares 85 = .ok (.ldc 81, 2) := by decide +kernel
theorem dX3_setShares_87 : decode cX3_setShares 87 = .ok (.invokespecial 83, 3) := by decide +kernel
theorem dX3_setShares_90 : decode cX3_setShares 90 = .ok (.athrow, 1) := by decide +kernel
theorem dX3_setShares_91 : decode cX3_setShares 91 = .ok (.aload_n 0, 1) := by decide +kernel
theorem dX3_setShares_92 : decode cX3_setShares 92 = .ok (.getfield 9, 3) := by decide +kernel
theorem dX3_setShares_95 : decode cX3_setShares 95 = .ok (.iconst 0, 1) := by decide +kernel
theorem dX3_setShares_96 : decode cX3_setShares 96 = .ok (.iload_n 1, 1) := by decide +kernel
theorem dX3_setShares_97 : decode cX3_setShares 97 = .ok (.iastore, 1) := by decide +kernel
theorem dX3_setShares_98 : decode cX3_setShares 98 = .ok (.aload_n 0, 1) := by decide +kernel
theorem dX3_setShares_99 : decode cX3_setShares 99 = .ok (.getfield 9, 3) := by decide +kernel
theorem dX3_setShares_102 : decode cX3_setShares 102 = .ok (.iconst 1, 1) := by decide +kernel
theorem dX3_setShares_103 : decode cX3_setShares 103 = .ok (.iload_n 2, 1) := by decide +kernel
theorem dX3_setShares_104 : decode cX3_setShares 104 = .ok (.iastore, 1) := by decide +kernel
theorem dX3_setShares_105 : decode cX3_setShares 105 = .ok (.aload_n 0, 1) := by decide +kernel
theorem dX3_setShares_106 : decode cX3_setShares 106 = .ok (.getfield 9, 3) := by decide +kernel
theorem dX3_setShares_109 : decode cX3_setShares 109 = .ok (.iconst 2, 1) := by decide +kernel
theorem dX3_setShares_110 : decode cX3_setShares 110 = .ok (.iload_n 3, 1) := by decide +kernel
theorem dX3_setShares_111 : decode cX3_setShares 111 = .ok (.iastore, 1) := by decide +kernel
theorem dX3_setShares_112 : decode cX3_setShares 112 = .ok (.aload_n 0, 1) := by decide +kernel
theorem dX3_setShares_113 : decode cX3_setShares 113 = .ok (.getfield 9, 3) := by decide +kernel
theorem dX3_setShares_116 : decode cX3_setShares 116 = .ok (.iconst 3, 1) := by decide +kernel
theorem dX3_setShares_117 : decode cX3_setShares 117 = .ok (.iload 4, 2) := by decide +kernel
theorem dX3_setShares_119 : decode cX3_setShares 119 = .ok (.iastore, 1) := by decide +kernel
theorem dX3_setShares_120 : decode cX3_setShares 120 = .ok (.aload_n 0, 1) := by decide +kernel
theorem dX3_setShares_121 : decode cX3_setShares 121 = .ok (.getfield 9, 3) := by decide +kernel
theorem dX3_setShares_124 : decode cX3_setShares 124 = .ok (.iconst 4, 1) := by decide +kernel
theorem dX3_setShares_125 : decode cX3_setShares 125 = .ok (.iload 5, 2) := by decide +kernel
theorem dX3_setShares_127 : decode cX3_setShares 127 = .ok (.iastore, 1) := by decide +kernel
theorem dX3_setShares_128 : decode cX3_setShares 128 = .ok (.return_, 1) := by decide +kernel
set_option maxRecDepth 20000 in
theorem ggX3_setPenalty_X3_requireRange : GoodIn wsX3_setPenalty wsX3_requireRange := goodIn_ca (goodIn_r _ [6, 7, 8] (by decide +kernel) (by decide +kernel)) (goodIn_sub (fun _ h => List.mem_cons_of_mem _ (List.mem_append_right _ h)) (by decide +kernel))
set_option maxRecDepth 20000 in
theorem gX3_setPenalty_X3_requireRange : GoodIn wsX3_setPenalty (wsV RX3 68 RX3 yX3_requireRange wsX3_requireRange) := goodIn_app (goodIn_of _ (by decide +kernel)) ggX3_setPenalty_X3_requireRange
theorem dX3_setPenalty_0 : decode cX3_setPenalty 0 = .ok (.aload_n 0, 1) := by decide +kernel
theorem dX3_setPenalty_1 : decode cX3_setPenalty 1 = .ok (.iload_n 1, 1) := by decide +kernel
theorem dX3_setPenalty_2 : decode cX3_setPenalty 2 = .ok (.bipush 100, 2) := by decide +kernel
theorem dX3_setPenalty_4 : decode cX3_setPenalty 4 = .ok (.sipush 1000, 3) := by decide +kernel
theorem dX3_setPenalty_7 : decode cX3_setPenalty 7 = .ok (.invokevirtual 68, 3) := by decide +kernel
theorem dX3_setPenalty_10 : decode cX3_setPenalty 10 = .ok (.aload_n 0, 1) := by decide +kernel
theorem dX3_setPenalty_11 : decode cX3_setPenalty 11 = .ok (.getfield 13, 3) := by decide +kernel
theorem dX3_setPenalty_14 : decode cX3_setPenalty 14 = .ok (.istore_n 2, 1) := by decide +kernel
theorem dX3_setPenalty_15 : decode cX3_setPenalty 15 = .ok (.aload_n 0, 1) := by decide +kernel
theorem dX3_setPenalty_16 : decode cX3_setPenalty 16 = .ok (.iload_n 1, 1) := by decide +kernel
theorem dX3_setPenalty_17 : decode cX3_setPenalty 17 = .ok (.putfield 13, 3) := by decide +kernel
theorem dX3_setPenalty_20 : decode cX3_setPenalty 20 = .ok (.iload_n 2, 1) := by decide +kernel
theorem dX3_setPenalty_21 : decode cX3_setPenalty 21 = .ok (.ireturn, 1) := by decide +kernel
set_option maxRecDepth 20000 in
theorem ggX3_setOverhead_X3_requireRange : GoodIn wsX3_setOverhead wsX3_requireRange := goodIn_ca (goodIn_r _ [7, 8, 9] (by decide +kernel) (by decide +kernel)) (goodIn_sub (fun _ h => List.mem_cons_of_mem _ (List.mem_append_right _ h)) (by decide +kernel))
set_option maxRecDepth 20000 in
theorem gX3_setOverhead_X3_requireRange : GoodIn wsX3_setOverhead (wsV RX3 68 RX3 yX3_requireRange wsX3_requireRange) := goodIn_app (goodIn_of _ (by decide +kernel)) ggX3_setOverhead_X3_requireRange
theorem dX3_setOverhead_0 : decode cX3_setOverhead 0 = .ok (.aload_n 0, 1) := by decide +kernel
theorem dX3_setOverhead_1 : decode cX3_setOverhead 1 = .ok (.iload_n 1, 1) := by decide +kernel
theorem dX3_setOverhead_2 : decode cX3_setOverhead 2 = .ok (.iconst 0, 1) := by decide +kernel
theorem dX3_setOverhead_3 : decode cX3_setOverhead 3 = .ok (.ldc 84, 2) := by decide +kernel
theorem dX3_setOverhead_5 : decode cX3_setOverhead 5 = .ok (.invokevirtual 68, 3) := by decide +kernel
theorem dX3_setOverhead_8 : decode cX3_setOverhead 8 = .ok (.aload_n 0, 1) := by decide +kernel
theorem dX3_setOverhead_9 : decode cX3_setOverhead 9 = .ok (.getfield 17, 3) := by decide +kernel
theorem dX3_setOverhead_12 : decode cX3_setOverhead 12 = .ok (.istore_n 2, 1) := by decide +kernel
theorem dX3_setOverhead_13 : decode cX3_setOverhead 13 = .ok (.aload_n 0, 1) := by decide +kernel
theorem dX3_setOverhead_14 : decode cX3_setOverhead 14 = .ok (.iload_n 1, 1) := by decide +kernel
theorem dX3_setOverhead_15 : decode cX3_setOverhead 15 = .ok (.putfield 17, 3) := by decide +kernel
theorem dX3_setOverhead_18 : decode cX3_setOverhead 18 = .ok (.iload_n 2, 1) := by decide +kernel
theorem dX3_setOverhead_19 : decode cX3_setOverhead 19 = .ok (.ireturn, 1) := by decide +kernel
theorem dX3_addWell_0 : decode cX3_addWell 0 = .ok (.aload_n 0, 1) := by decide +kernel
theorem dX3_addWell_1 : decode cX3_addWell 1 = .ok (.getfield 26, 3) := by decide +kernel
theorem dX3_addWell_4 : decode cX3_addWell 4 = .ok (.bipush 6, 2) := by decide +kernel
theorem dX3_addWell_6 : decode cX3_addWell 6 = .ok (.if_icmp .lt 13, 3) := by decide +kernel
theorem dX3_addWell_9 : decode cX3_addWell 9 = .ok (.new 79, 3) := by decide +kernel
theorem dX3_addWell_12 : decode cX3_addWell 12 = .ok (.dup, 1) := by decide +kernel
theorem dX3_addWell_13 : decode cX3_addWell 13 = .ok (.ldc 85, 2) := by decide +kernel
theorem dX3_addWell_15 : decode cX3_addWell 15 = .ok (.invokespecial 83, 3) := by decide +kernel
theorem dX3_addWell_18 : decode cX3_addWell 18 = .ok (.athrow, 1) := by decide +kernel
theorem dX3_addWell_19 : decode cX3_addWell 19 = .ok (.aload_n 0, 1) := by decide +kernel
theorem dX3_addWell_20 : decode cX3_addWell 20 = .ok (.getfield 22, 3) := by decide +kernel
theorem dX3_addWell_23 : decode cX3_addWell 23 = .ok (.aload_n 0, 1) := by decide +kernel
theorem dX3_addWell_24 : decode cX3_addWell 24 = .ok (.getfield 26, 3) := by decide +kernel
theorem dX3_addWell_27 : decode cX3_addWell 27 = .ok (.aaload, 1) := by decide +kernel
theorem dX3_addWell_28 : decode cX3_addWell 28 = .ok (.aload_n 0, 1) := by decide +kernel
theorem dX3_addWell_29 : decode cX3_addWell 29 = .ok (.getfield 13, 3) := by decide +kernel
theorem dX3_addWell_32 : decode cX3_addWell 32 = .ok (.putfield 87, 3) := by decide +kernel
theorem dX3_addWell_35 : decode cX3_addWell 35 = .ok (.aload_n 0, 1) := by decide +kernel
theorem dX3_addWell_36 : decode cX3_addWell 36 = .ok (.dup, 1) := by decide +kernel
theorem dX3_addWell_37 : decode cX3_addWell 37 = .ok (.getfield 26, 3) := by decide +kernel
theorem dX3_addWell_40 : decode cX3_addWell 40 = .ok (.iconst 1, 1) := by decide +kernel
theorem dX3_addWell_41 : decode cX3_addWell 41 = .ok (.iadd, 1) := by decide +kernel
theorem dX3_addWell_42 : decode cX3_addWell 42 = .ok (.putfield 26, 3) := by decide +kernel
theorem dX3_addWell_45 : decode cX3_addWell 45 = .ok (.aload_n 0, 1) := by decide +kernel
theorem dX3_addWell_46 : decode cX3_addWell 46 = .ok (.getfield 26, 3) := by decide +kernel
theorem dX3_addWell_49 : decode cX3_addWell 49 = .ok (.iconst 1, 1) := by decide +kernel
theorem dX3_addWell_50 : decode cX3_addWell 50 = .ok (.isub, 1) := by decide +kernel
theorem dX3_addWell_51 : decode cX3_addWell 51 = .ok (.ireturn, 1) := by decide +kernel
set_option maxRecDepth 20000 in
theorem ggX3_elect_X3_requireWell : GoodIn wsX3_elect wsX3_requireWell := goodIn_ca (goodIn_r _ [12, 13, 14, 15, 28, 29, 30, 31, 32, 33, 34, 35, 36, 37, 38, 39, 40, 41, 42] (by decide +kernel) (by decide +kernel)) (goodIn_sub (fun _ h => List.mem_cons_of_mem _ (List.mem_append_right _ h)) (by decide +kernel))
set_option maxRecDepth 20000 in
theorem gX3_elect_X3_requireWell : GoodIn wsX3_elect (wsV RX3 90 RX3 yX3_requireWell wsX3_requireWell) := goodIn_app (goodIn_of _ (by decide +kernel)) ggX3_elect_X3_requireWell
set_option maxRecDepth 20000 in
theorem ggX3_elect_X3_requirePartner : GoodIn wsX3_elect wsX3_requirePartner := goodIn_ca (goodIn_r _ [19, 13, 14] (by decide +kernel) (by decide +kernel)) (goodIn_sub (fun _ h => List.mem_cons_of_mem _ (List.mem_append_right _ h)) (by decide +kernel))
set_option maxRecDepth 20000 in
theorem gX3_elect_X3_requirePartner : GoodIn wsX3_elect (wsV RX3 94 RX3 yX3_requirePartner wsX3_requirePartner) := goodIn_app (goodIn_of _ (by decide +kernel)) ggX3_elect_X3_requirePartner
set_option maxRecDepth 20000 in
theorem ggX3_elect_X3_isAnotherIn : GoodIn wsX3_elect wsX3_isAnotherIn := goodIn_r _ [23, 24, 25, 26, 11, 27, 7, 5, 43, 44, 45, 46, 47, 48, 49, 50, 28, 29, 30, 31, 32, 33, 34, 35, 36, 37, 38, 39, 40, 41, 42] (by decide +kernel) (by decide +kernel)
set_option maxRecDepth 20000 in
theorem gX3_elect_X3_isAnotherIn : GoodIn wsX3_elect (wsV RX3 105 RX3 yX3_isAnotherIn wsX3_isAnotherIn) := goodIn_app (goodIn_of _ (by decide +kernel)) ggX3_elect_X3_isAnotherIn
theorem dX3_elect_0 : decode cX3_elect 0 = .ok (.aload_n 0, 1) := by decide +kernel
theorem dX3_elect_1 : decode cX3_elect 1 = .ok (.iload_n 1, 1) := by decide +kernel
theorem dX3_elect_2 : decode cX3_elect 2 = .ok (.invokevirtual 90, 3) := by decide +kernel
theorem dX3_elect_5 : decode cX3_elect 5 = .ok (.aload_n 0, 1) := by decide +kernel
theorem dX3_elect_6 : decode cX3_elect 6 = .ok (.iload_n 2, 1) := by decide +kernel
theorem dX3_elect_7 : decode cX3_elect 7 = .ok (.invokevirtual 94, 3) := by decide +kernel
theorem dX3_elect_10 : decode cX3_elect 10 = .ok (.aload_n 0, 1) := by decide +kernel
theorem dX3_elect_11 : decode cX3_elect 11 = .ok (.getfield 22, 3) := by decide +kernel
theorem dX3_elect_14 : decode cX3_elect 14 = .ok (.iload_n 1, 1) := by decide +kernel
theorem dX3_elect_15 : decode cX3_elect 15 = .ok (.aaload, 1) := by decide +kernel
theorem dX3_elect_16 : decode cX3_elect 16 = .ok (.astore 4, 2) := by decide +kernel
theorem dX3_elect_18 : decode cX3_elect 18 = .ok (.aload 4, 2) := by decide +kernel
theorem dX3_elect_20 : decode cX3_elect 20 = .ok (.getfield 97, 3) := by decide +kernel
theorem dX3_elect_23 : decode cX3_elect 23 = .ok (.ifCond .eq 13, 3) := by decide +kernel
theorem dX3_elect_26 : decode cX3_elect 26 = .ok (.new 79, 3) := by decide +kernel
theorem dX3_elect_29 : decode cX3_elect 29 = .ok (.dup, 1) := by decide +kernel
theorem dX3_elect_30 : decode cX3_elect 30 = .ok (.ldc 101, 2) := by decide +kernel
theorem dX3_elect_32 : decode cX3_elect 32 = .ok (.invokespecial 83, 3) := by decide +kernel
theorem dX3_elect_35 : decode cX3_elect 35 = .ok (.athrow, 1) := by decide +kernel
theorem dX3_elect_36 : decode cX3_elect 36 = .ok (.aload_n 0, 1) := by decide +kernel
theorem dX3_elect_37 : decode cX3_elect 37 = .ok (.getfield 9, 3) := by decide +kernel
theorem dX3_elect_40 : decode cX3_elect 40 = .ok (.iload_n 2, 1) := by decide +kernel
theorem dX3_elect_41 : decode cX3_elect 41 = .ok (.iaload, 1) := by decide +kernel
theorem dX3_elect_42 : decode cX3_elect 42 = .ok (.ifCond .ne 13, 3) := by decide +kernel
theorem dX3_elect_45 : decode cX3_elect 45 = .ok (.new 79, 3) := by decide +kernel
theorem dX3_elect_48 : decode cX3_elect 48 = .ok (.dup, 1) := by decide +kernel
theorem dX3_elect_49 : decode cX3_elect 49 = .ok (.ldc 103, 2) := by decide +kernel
theorem dX3_elect_51 : decode cX3_elect 51 = .ok (.invokespecial 83, 3) := by decide +kernel
theorem dX3_elect_54 : decode cX3_elect 54 = .ok (.athrow, 1) := by decide +kernel
theorem dX3_elect_55 : decode cX3_elect 55 = .ok (.iload_n 3, 1) := by decide +kernel
theorem dX3_elect_56 : decode cX3_elect 56 = .ok (.ifCond .ne 23, 3) := by decide +kernel
theorem dX3_elect_59 : decode cX3_elect 59 = .ok (.aload_n 0, 1) := by decide +kernel
theorem dX3_elect_60 : decode cX3_elect 60 = .ok (.aload 4, 2) := by decide +kernel
theorem dX3_elect_62 : decode cX3_elect 62 = .ok (.iload_n 2, 1) := by decide +kernel
theorem dX3_elect_63 : decode cX3_elect 63 = .ok (.invokevirtual 105, 3) := by decide +kernel
theorem dX3_elect_66 : decode cX3_elect 66 = .ok (.ifCond .ne 13, 3) := by decide +kernel
theorem dX3_elect_69 : decode cX3_elect 69 = .ok (.new 79, 3) := by decide +kernel
theorem dX3_elect_72 : decode cX3_elect 72 = .ok (.dup, 1) := by decide +kernel
theorem dX3_elect_73 : decode cX3_elect 73 = .ok (.ldc 109, 2) := by decide +kernel
theorem dX3_elect_75 : decode cX3_elect 75 = .ok (.invokespecial 83, 3) := by decide +kernel
theorem dX3_elect_78 : decode cX3_elect 78 = .ok (.athrow, 1) := by decide +kernel
theorem dX3_elect_79 : decode cX3_elect 79 = .ok (.aload 4, 2) := by decide +kernel
theorem dX3_elect_81 : decode cX3_elect 81 = .ok (.getfield 111, 3) := by decide +kernel
theorem dX3_elect_84 : decode cX3_elect 84 = .ok (.iload_n 2, 1) := by decide +kernel
theorem dX3_elect_85 : decode cX3_elect 85 = .ok (.baload, 1) := by decide +kernel
theorem dX3_elect_86 : decode cX3_elect 86 = .ok (.ifCond .ne 7, 3) := by decide +kernel
theorem dX3_elect_89 : decode cX3_elect 89 = .ok (.iconst 1, 1) := by decide +kernel
theorem dX3_elect_90 : decode cX3_elect 90 = .ok (.goto 4, 3) := by decide +kernel
theorem dX3_elect_93 : decode cX3_elect 93 = .ok (.iconst 0, 1) := by decide +kernel
theorem dX3_elect_94 : decode cX3_elect 94 = .ok (.istore 5, 2) := by decide +kernel
theorem dX3_elect_96 : decode cX3_elect 96 = .ok (.aload 4, 2) := by decide +kernel
theorem dX3_elect_98 : decode cX3_elect 98 = .ok (.getfield 111, 3) := by decide +kernel
theorem dX3_elect_101 : decode cX3_elect 101 = .ok (.iload_n 2, 1) := by decide +kernel
theorem dX3_elect_102 : decode cX3_elect 102 = .ok (.iload_n 3, 1) := by decide +kernel
theorem dX3_elect_103 : decode cX3_elect 103 = .ok (.ifCond .ne 7, 3) := by decide +kernel
theorem dX3_elect_106 : decode cX3_elect 106 = .ok (.iconst 1, 1) := by decide +kernel
theorem dX3_elect_107 : decode cX3_elect 107 = .ok (.goto 4, 3) := by decide +kernel
theorem dX3_elect_110 : decode cX3_elect 110 = .ok (.iconst 0, 1) := by decide +kernel
theorem dX3_elect_111 : decode cX3_elect 111 = .ok (.bastore, 1) := by decide +kernel
theorem dX3_elect_112 : decode cX3_elect 112 = .ok (.aload 4, 2) := by decide +kernel
theorem dX3_elect_114 : decode cX3_elect 114 = .ok (.getfield 115, 3) := by decide +kernel
theorem dX3_elect_117 : decode cX3_elect 117 = .ok (.iload_n 2, 1) := by decide +kernel
theorem dX3_elect_118 : decode cX3_elect 118 = .ok (.iload_n 3, 1) := by decide +kernel
theorem dX3_elect_119 : decode cX3_elect 119 = .ok (.ifCond .ne 7, 3) := by decide +kernel
theorem dX3_elect_122 : decode cX3_elect 122 = .ok (.iconst 1, 1) := by decide +kernel
theorem dX3_elect_123 : decode cX3_elect 123 = .ok (.goto 4, 3) := by decide +kernel
theorem dX3_elect_126 : decode cX3_elect 126 = .ok (.iconst 0, 1) := by decide +kernel
theorem dX3_elect_127 : decode cX3_elect 127 = .ok (.bastore, 1) := by decide +kernel
theorem dX3_elect_128 : decode cX3_elect 128 = .ok (.iload 5, 2) := by decide +kernel
theorem dX3_elect_130 : decode cX3_elect 130 = .ok (.ireturn, 1) := by decide +kernel
set_option maxRecDepth 20000 in
theorem ggX3_cost_X3_requireWell : GoodIn wsX3_cost wsX3_requireWell := goodIn_ca (goodIn_r _ [6, 7, 8, 9, 110, 111, 112, 113, 114, 115, 116, 117, 118, 119, 120, 121, 122, 123, 124] (by decide +kernel) (by decide +kernel)) (goodIn_sub (fun _ h => List.mem_cons_of_mem _ (List.mem_append_left _ (List.mem_append_left _ (List.mem_append_right _ h)))) (by decide +kernel))
set_option maxRecDepth 20000 in
theorem gX3_cost_X3_requireWell : GoodIn wsX3_cost (wsV RX3 90 RX3 yX3_requireWell wsX3_requireWell) := goodIn_app (goodIn_of _ (by decide +kernel)) ggX3_cost_X3_requireWell
set_option maxRecDepth 20000 in
theorem ggX3_cost_X3_requireRange : GoodIn wsX3_cost wsX3_requireRange := goodIn_ca (goodIn_r _ [13, 14, 15] (by decide +kernel) (by decide +kernel)) (goodIn_sub (fun _ h => List.mem_cons_of_mem _ (List.mem_append_left _ (List.mem_append_right _ h))) (by decide +kernel))
set_option maxRecDepth 20000 in
theorem gX3_cost_X3_requireRange : GoodIn wsX3_cost (wsV RX3 68 RX3 yX3_requireRange wsX3_requireRange) := goodIn_app (goodIn_of _ (by decide +kernel)) ggX3_cost_X3_requireRange
set_option maxRecDepth 20000 in
theorem ggX3_cost_X3_requireRoomForVoucher : GoodIn wsX3_cost wsX3_requireRoomForVoucher := goodIn_ca (goodIn_r _ [19, 20, 21, 22, 110, 111, 112, 113, 114, 115, 116, 117, 118, 119, 120, 121, 122, 123, 124] (by decide +kernel) (by decide +kernel)) (goodIn_sub (fun _ h => List.mem_cons_of_mem _ (List.mem_append_right _ h)) (by decide +kernel))
set_option maxRecDepth 20000 in
theorem gX3_cost_X3_requireRoomForVoucher : GoodIn wsX3_cost (wsV RX3 119 RX3 yX3_requireRoomForVoucher wsX3_requireRoomForVoucher) := goodIn_app (goodIn_of _ (by decide +kernel)) ggX3_cost_X3_requireRoomForVoucher
set_option maxRecDepth 20000 in
theorem ggX3_cost_X3_addVoucher : GoodIn wsX3_cost wsX3_addVoucher := goodIn_r _ [26, 22, 27, 28, 29, 30, 31, 32, 33, 5, 34, 35, 36, 37, 38, 39, 40, 41, 42, 43, 44, 45, 46, 47, 48, 49, 50, 51, 52, 53, 54, 55, 56, 57, 58, 59, 60, 61, 62, 63, 64, 65, 66, 67, 68, 69, 70, 71, 72, 73, 74, 75, 76, 77, 78, 79, 80, 81, 82, 83, 84, 85, 86, 87, 88, 89, 90, 91, 92, 93, 94, 95, 96, 97, 98, 99, 100, 101, 102, 103, 104, 105, 106, 107, 108, 109, 110, 111, 112, 113, 114, 115, 116, 117, 118, 119, 120, 121, 122, 123, 124, 125, 126, 127, 128, 129, 130, 131, 132, 133] (by decide +kernel) (by decide +kernel)
set_option maxRecDepth 20000 in
theorem gX3_cost_X3_addVoucher : GoodIn wsX3_cost (wsV RX3 122 RX3 yX3_addVoucher wsX3_addVoucher) := goodIn_app (goodIn_of _ (by decide +kernel)) ggX3_cost_X3_addVoucher
theorem dX3_cost_0 : decode cX3_cost 0 = .ok (.aload_n 0, 1) := by decide +kernel
theorem dX3_cost_1 : decode cX3_cost 1 = .ok (.iload_n 1, 1) := by decide +kernel
theorem dX3_cost_2 : decode cX3_cost 2 = .ok (.invokevirtual 90, 3) := by decide +kernel
theorem dX3_cost_5 : decode cX3_cost 5 = .ok (.aload_n 0, 1) := by decide +kernel
theorem dX3_cost_6 : decode cX3_cost 6 = .ok (.iload_n 2, 1) := by decide +kernel
theorem dX3_cost_7 : decode cX3_cost 7 = .ok (.iconst 1, 1) := by decide +kernel
theorem dX3_cost_8 : decode cX3_cost 8 = .ok (.ldc 118, 2) := by decide +kernel
theorem dX3_cost_10 : decode cX3_cost 10 = .ok (.invokevirtual 68, 3) := by decide +kernel
theorem dX3_cost_13 : decode cX3_cost 13 = .ok (.aload_n 0, 1) := by decide +kernel
theorem dX3_cost_14 : decode cX3_cost 14 = .ok (.invokevirtual 119, 3) := by decide +kernel
theorem dX3_cost_17 : decode cX3_cost 17 = .ok (.aload_n 0, 1) := by decide +kernel
theorem dX3_cost_18 : decode cX3_cost 18 = .ok (.iload_n 1, 1) := by decide +kernel
theorem dX3_cost_19 : decode cX3_cost 19 = .ok (.iload_n 2, 1) := by decide +kernel
theorem dX3_cost_20 : decode cX3_cost 20 = .ok (.invokevirtual 122, 3) := by decide +kernel
theorem dX3_cost_23 : decode cX3_cost 23 = .ok (.ireturn, 1) := by decide +kernel
set_option maxRecDepth 20000 in
theorem ggX3_overhead_X3_requireWell : GoodIn wsX3_overhead wsX3_requireWell := goodIn_ca (goodIn_r _ [8, 9, 10, 11, 110, 111, 112, 113, 114, 115, 116, 117, 118, 119, 120, 121, 122, 123, 124] (by decide +kernel) (by decide +kernel)) (goodIn_sub (fun _ h => List.mem_cons_of_mem _ (List.mem_append_left _ (List.mem_append_right _ h))) (by decide +kernel))
set_option maxRecDepth 20000 in
theorem gX3_overhead_X3_requireWell : GoodIn wsX3_overhead (wsV RX3 90 RX3 yX3_requireWell wsX3_requireWell) := goodIn_app (goodIn_of _ (by decide +kernel)) ggX3_overhead_X3_requireWell
set_option maxRecDepth 20000 in
theorem ggX3_overhead_X3_requireRange : GoodIn wsX3_overhead wsX3_requireRange := goodIn_ca (goodIn_r _ [15, 16, 17] (by decide +kernel) (by decide +kernel)) (goodIn_sub (fun _ h => List.mem_cons_of_mem _ (List.mem_append_right _ h)) (by decide +kernel))
set_option maxRecDepth 20000 in
theorem gX3_overhead_X3_requireRange : GoodIn wsX3_overhead (wsV RX3 68 RX3 yX3_requireRange wsX3_requireRange) := goodIn_app (goodIn_of _ (by decide +kernel)) ggX3_overhead_X3_requireRange
set_option maxRecDepth 20000 in
theorem ggX3_overhead_X3_requireRoomForVoucher : GoodIn wsX3_overhead wsX3_requireRoomForVoucher := goodIn_ca (goodIn_r _ [21, 1, 2, 22, 110, 111, 112, 113, 114, 115, 116, 117, 118, 119, 120, 121, 122, 123, 124] (by decide +kernel) (by decide +kernel)) (goodIn_sub (fun _ h => List.mem_cons_of_mem _ (List.mem_append_left _ (List.mem_append_left _ (List.mem_append_right _ h)))) (by decide +kernel))
set_option maxRecDepth 20000 in
theorem gX3_overhead_X3_requireRoomForVoucher : GoodIn wsX3_overhead (wsV RX3 119 RX3 yX3_requireRoomForVoucher wsX3_requireRoomForVoucher) := goodIn_app (goodIn_of _ (by decide +kernel)) ggX3_overhead_X3_requireRoomForVoucher
set_option maxRecDepth 20000 in
theorem ggX3_overhead_X3_addVoucher : GoodIn wsX3_overhead wsX3_addVoucher := goodIn_r _ [26, 22, 27, 28, 29, 30, 31, 32, 33, 7, 34, 35, 36, 37, 38, 39, 40, 41, 42, 43, 44, 45, 46, 47, 48, 49, 50, 51, 52, 53, 54, 55, 56, 57, 58, 59, 60, 61, 62, 63, 64, 65, 66, 67, 68, 69, 70, 71, 72, 73, 74, 75, 76, 77, 78, 79, 80, 81, 82, 83, 84, 85, 86, 87, 88, 89, 90, 91, 92, 93, 94, 95, 96, 97, 98, 99, 100, 101, 102, 103, 104, 105, 106, 107, 108, 109, 110, 111, 112, 113, 114, 115, 116, 117, 118, 119, 120, 121, 122, 123, 124, 125, 126, 127, 128, 129, 130, 131, 132, 133] (by decide +kernel) (by decide +kernel)
set_option maxRecDepth 20000 in
theorem gX3_overhead_X3_addVoucher : GoodIn wsX3_overhead (wsV RX3 122 RX3 yX3_addVoucher wsX3_addVoucher) := goodIn_app (goodIn_of _ (by decide +kernel)) ggX3_overhead_X3_addVoucher
theorem dX3_overhead_0 : decode cX3_overhead 0 = .ok (.aload_n 0, 1) := by decide +kernel
theorem dX3_overhead_1 : decode cX3_overhead 1 = .ok (.iload_n 1, 1) := by decide +kernel
theorem dX3_overhead_2 : decode cX3_overhead 2 = .ok (.invokevirtual 90, 3) := by decide +kernel
theorem dX3_overhead_5 : decode cX3_overhead 5 = .ok (.aload_n 0, 1) := by decide +kernel
theorem dX3_overhead_6 : decode cX3_overhead 6 = .ok (.iload_n 2, 1) := by decide +kernel
theorem dX3_overhead_7 : decode cX3_overhead 7 = .ok (.iconst 1, 1) := by decide +kernel
theorem dX3_overhead_8 : decode cX3_overhead 8 = .ok (.bipush 24, 2) := by decide +kernel
theorem dX3_overhead_10 : decode cX3_overhead 10 = .ok (.invokevirtual 68, 3) := by decide +kernel
theorem dX3_overhead_13 : decode cX3_overhead 13 = .ok (.aload_n 0, 1) := by decide +kernel
theorem dX3_overhead_14 : decode cX3_overhead 14 = .ok (.invokevirtual 119, 3) := by decide +kernel
theorem dX3_overhead_17 : decode cX3_overhead 17 = .ok (.aload_n 0, 1) := by decide +kernel
theorem dX3_overhead_18 : decode cX3_overhead 18 = .ok (.getfield 17, 3) := by decide +kernel
theorem dX3_overhead_21 : decode cX3_overhead 21 = .ok (.ifCond .ne 13, 3) := by decide +kernel
theorem dX3_overhead_24 : decode cX3_overhead 24 = .ok (.new 79, 3) := by decide +kernel
theorem dX3_overhead_27 : decode cX3_overhead 27 = .ok (.dup, 1) := by decide +kernel
theorem dX3_overhead_28 : decode cX3_overhead 28 = .ok (.ldc 126, 2) := by decide +kernel
theorem dX3_overhead_30 : decode cX3_overhead 30 = .ok (.invokespecial 83, 3) := by decide +kernel
theorem dX3_overhead_33 : decode cX3_overhead 33 = .ok (.athrow, 1) := by decide +kernel
theorem dX3_overhead_34 : decode cX3_overhead 34 = .ok (.aload_n 0, 1) := by decide +kernel
theorem dX3_overhead_35 : decode cX3_overhead 35 = .ok (.iload_n 1, 1) := by decide +kernel
theorem dX3_overhead_36 : decode cX3_overhead 36 = .ok (.aload_n 0, 1) := by decide +kernel
theorem dX3_overhead_37 : decode cX3_overhead 37 = .ok (.getfield 17, 3) := by decide +kernel
theorem dX3_overhead_40 : decode cX3_overhead 40 = .ok (.iload_n 2, 1) := by decide +kernel
theorem dX3_overhead_41 : decode cX3_overhead 41 = .ok (.imul, 1) := by decide +kernel
theorem dX3_overhead_42 : decode cX3_overhead 42 = .ok (.invokevirtual 122, 3) := by decide +kernel
theorem dX3_overhead_45 : decode cX3_overhead 45 = .ok (.ireturn, 1) := by decide +kernel
set_option maxRecDepth 20000 in
theorem ggX3_income_X3_requireWell : GoodIn wsX3_income wsX3_requireWell := goodIn_ca (goodIn_r _ [6, 7, 8, 9, 110, 111, 112, 113, 114, 115, 116, 117, 118, 119, 120, 121, 122, 123, 124] (by decide +kernel) (by decide +kernel)) (goodIn_sub (fun _ h => List.mem_cons_of_mem _ (List.mem_append_left _ (List.mem_append_left _ (List.mem_append_right _ h)))) (by decide +kernel))
set_option maxRecDepth 20000 in
theorem gX3_income_X3_requireWell : GoodIn wsX3_income (wsV RX3 90 RX3 yX3_requireWell wsX3_requireWell) := goodIn_app (goodIn_of _ (by decide +kernel)) ggX3_income_X3_requireWell
set_option maxRecDepth 20000 in
theorem ggX3_income_X3_requireRange : GoodIn wsX3_income wsX3_requireRange := goodIn_ca (goodIn_r _ [13, 14, 15] (by decide +kernel) (by decide +kernel)) (goodIn_sub (fun _ h => List.mem_cons_of_mem _ (List.mem_append_left _ (List.mem_append_right _ h))) (by decide +kernel))
set_option maxRecDepth 20000 in
theorem gX3_income_X3_requireRange : GoodIn wsX3_income (wsV RX3 68 RX3 yX3_requireRange wsX3_requireRange) := goodIn_app (goodIn_of _ (by decide +kernel)) ggX3_income_X3_requireRange
set_option maxRecDepth 20000 in
theorem ggX3_income_X3_requireRoomForVoucher : GoodIn wsX3_income wsX3_requireRoomForVoucher := goodIn_ca (goodIn_r _ [19, 20, 21, 22, 110, 111, 112, 113, 114, 115, 116, 117, 118, 119, 120, 121, 122, 123, 124] (by decide +kernel) (by decide +kernel)) (goodIn_sub (fun _ h => List.mem_cons_of_mem _ (List.mem_append_right _ h)) (by decide +kernel))
set_option maxRecDepth 20000 in
theorem gX3_income_X3_requireRoomForVoucher : GoodIn wsX3_income (wsV RX3 119 RX3 yX3_requireRoomForVoucher wsX3_requireRoomForVoucher) := goodIn_app (goodIn_of _ (by decide +kernel)) ggX3_income_X3_requireRoomForVoucher
set_option maxRecDepth 20000 in
theorem ggX3_income_X3_addVoucher : GoodIn wsX3_income wsX3_addVoucher := goodIn_r _ [26, 22, 27, 28, 29, 30, 31, 32, 33, 5, 34, 35, 36, 37, 38, 39, 40, 41, 42, 43, 44, 45, 46, 47, 48, 49, 50, 51, 52, 53, 54, 55, 56, 57, 58, 59, 60, 61, 62, 63, 64, 65, 66, 67, 68, 69, 70, 71, 72, 73, 74, 75, 76, 77, 78, 79, 80, 81, 82, 83, 84, 85, 86, 87, 88, 89, 90, 91, 92, 93, 94, 95, 96, 97, 98, 99, 100, 101, 102, 103, 104, 105, 106, 107, 108, 109, 110, 111, 112, 113, 114, 115, 116, 117, 118, 119, 120, 121, 122, 123, 124, 125, 126, 127, 128, 129, 130, 131, 132, 133] (by decide +kernel) (by decide +kernel)
set_option maxRecDepth 20000 in
theorem gX3_income_X3_addVoucher : GoodIn wsX3_income (wsV RX3 122 RX3 yX3_addVoucher wsX3_addVoucher) := goodIn_app (goodIn_of _ (by decide +kernel)) ggX3_income_X3_addVoucher
theorem dX3_income_0 : decode cX3_income 0 = .ok (.aload_n 0, 1) := by decide +kernel
theorem dX3_income_1 : decode cX3_income 1 = .ok (.iload_n 1, 1) := by decide +kernel
theorem dX3_income_2 : decode cX3_income 2 = .ok (.invokevirtual 90, 3) := by decide +kernel
theorem dX3_income_5 : decode cX3_income 5 = .ok (.aload_n 0, 1) := by decide +kernel
theorem dX3_income_6 : decode cX3_income 6 = .ok (.iload_n 2, 1) := by decide +kernel
theorem dX3_income_7 : decode cX3_income 7 = .ok (.iconst 1, 1) := by decide +kernel
theorem dX3_income_8 : decode cX3_income 8 = .ok (.ldc 118, 2) := by decide +kernel
theorem dX3_income_10 : decode cX3_income 10 = .ok (.invokevirtual 68, 3) := by decide +kernel
theorem dX3_income_13 : decode cX3_income 13 = .ok (.aload_n 0, 1) := by decide +kernel
theorem dX3_income_14 : decode cX3_income 14 = .ok (.invokevirtual 119, 3) := by decide +kernel
theorem dX3_income_17 : decode cX3_income 17 = .ok (.aload_n 0, 1) := by decide +kernel
theorem dX3_income_18 : decode cX3_income 18 = .ok (.iload_n 1, 1) := by decide +kernel
theorem dX3_income_19 : decode cX3_income 19 = .ok (.iload_n 2, 1) := by decide +kernel
theorem dX3_income_20 : decode cX3_income 20 = .ok (.ineg, 1) := by decide +kernel
theorem dX3_income_21 : decode cX3_income 21 = .ok (.invokevirtual 122, 3) := by decide +kernel
theorem dX3_income_24 : decode cX3_income 24 = .ok (.ireturn, 1) := by decide +kernel
set_option maxRecDepth 20000 in
theorem ggX3_move_X3_requireVoucher : GoodIn wsX3_move wsX3_requireVoucher := goodIn_ca (goodIn_r _ [11, 12, 13, 14, 114, 115, 116, 117, 118, 119, 120, 121, 122, 123, 124, 125, 126, 127, 128] (by decide +kernel) (by decide +kernel)) (goodIn_sub (fun _ h => List.mem_cons_of_mem _ (List.mem_append_right _ h)) (by decide +kernel))
set_option maxRecDepth 20000 in
theorem gX3_move_X3_requireVoucher : GoodIn wsX3_move (wsV RX3 128 RX3 yX3_requireVoucher wsX3_requireVoucher) := goodIn_app (goodIn_of _ (by decide +kernel)) ggX3_move_X3_requireVoucher
set_option maxRecDepth 20000 in
theorem ggX3_move_X3_requireWell : GoodIn wsX3_move wsX3_requireWell := goodIn_ca (goodIn_r _ [18, 12, 13, 19, 114, 115, 116, 117, 118, 119, 120, 121, 122, 123, 124, 125, 126, 127, 128] (by decide +kernel) (by decide +kernel)) (goodIn_sub (fun _ h => List.mem_cons_of_mem _ (List.mem_append_right _ h)) (by decide +kernel))
set_option maxRecDepth 20000 in
theorem gX3_move_X3_requireWell : GoodIn wsX3_move (wsV RX3 90 RX3 yX3_requireWell wsX3_requireWell) := goodIn_app (goodIn_of _ (by decide +kernel)) ggX3_move_X3_requireWell
set_option maxRecDepth 20000 in
theorem ggX3_move_X3_accountAnew : GoodIn wsX3_move wsX3_accountAnew := goodIn_r _ [23, 5, 14, 4, 24, 25, 26, 27, 28, 29, 30, 31, 32, 33, 34, 35, 36, 37, 38, 39, 40, 41, 42, 43, 44, 10, 45, 3, 46, 47, 48, 49, 50, 51, 52, 53, 54, 55, 56, 57, 58, 59, 60, 61, 62, 63, 64, 65, 66, 67, 68, 69, 70, 71, 72, 73, 74, 75, 76, 77, 78, 79, 80, 81, 82, 83, 84, 85, 86, 87, 88, 89, 90, 91, 92, 93, 94, 95, 96, 97, 98, 99, 100, 101, 102, 103, 104, 105, 106, 107, 108, 109, 110, 111, 112, 113, 114, 115, 116, 117, 118, 119, 120, 121, 122, 123, 124, 125, 126, 127, 128, 129, 130, 131, 132, 133, 134, 135, 136, 137] (by decide +kernel) (by decide +kernel)
set_option maxRecDepth 20000 in
theorem gX3_move_X3_accountAnew : GoodIn wsX3_move (wsV RX3 133 RX3 yX3_accountAnew wsX3_accountAnew) := goodIn_app (goodIn_of _ (by decide +kernel)) ggX3_move_X3_accountAnew
theorem dX3_move_0 : decode cX3_move 0 = .ok (.aload_n 0, 1) := by decide +kernel
theorem dX3_move_1 : decode cX3_move 1 = .ok (.iload_n 1, 1) := by decide +kernel
theorem dX3_move_2 : decode cX3_move 2 = .ok (.invokevirtual 128, 3) := by decide +kernel
theorem dX3_move_5 : decode cX3_move 5 = .ok (.aload_n 0, 1) := by decide +kernel
theorem dX3_move_6 : decode cX3_move 6 = .ok (.iload_n 2, 1) := by decide +kernel
theorem dX3_move_7 : decode cX3_move 7 = .ok (.invokevirtual 90, 3) := by decide +kernel
theorem dX3_move_10 : decode cX3_move 10 = .ok (.aload_n 0, 1) := by decide +kernel
theorem dX3_move_11 : decode cX3_move 11 = .ok (.getfield 32, 3) := by decide +kernel
theorem dX3_move_14 : decode cX3_move 14 = .ok (.iload_n 1, 1) := by decide +kernel
theorem dX3_move_15 : decode cX3_move 15 = .ok (.iaload, 1) := by decide +kernel
theorem dX3_move_16 : decode cX3_move 16 = .ok (.ifCond .ge 13, 3) := by decide +kernel
theorem dX3_move_19 : decode cX3_move 19 = .ok (.new 79, 3) := by decide +kernel
theorem dX3_move_22 : decode cX3_move 22 = .ok (.dup, 1) := by decide +kernel
theorem dX3_move_23 : decode cX3_move 23 = .ok (.ldc 131, 2) := by decide +kernel
theorem dX3_move_25 : decode cX3_move 25 = .ok (.invokespecial 83, 3) := by decide +kernel
theorem dX3_move_28 : decode cX3_move 28 = .ok (.athrow, 1) := by decide +kernel
theorem dX3_move_29 : decode cX3_move 29 = .ok (.aload_n 0, 1) := by decide +kernel
theorem dX3_move_30 : decode cX3_move 30 = .ok (.getfield 29, 3) := by decide +kernel
theorem dX3_move_33 : decode cX3_move 33 = .ok (.iload_n 1, 1) := by decide +kernel
theorem dX3_move_34 : decode cX3_move 34 = .ok (.iaload, 1) := by decide +kernel
theorem dX3_move_35 : decode cX3_move 35 = .ok (.istore_n 3, 1) := by decide +kernel
theorem dX3_move_36 : decode cX3_move 36 = .ok (.aload_n 0, 1) := by decide +kernel
theorem dX3_move_37 : decode cX3_move 37 = .ok (.getfield 29, 3) := by decide +kernel
theorem dX3_move_40 : decode cX3_move 40 = .ok (.iload_n 1, 1) := by decide +kernel
theorem dX3_move_41 : decode cX3_move 41 = .ok (.iload_n 2, 1) := by decide +kernel
theorem dX3_move_42 : decode cX3_move 42 = .ok (.iastore, 1) := by decide +kernel
theorem dX3_move_43 : decode cX3_move 43 = .ok (.aload_n 0, 1) := by decide +kernel
theorem dX3_move_44 : decode cX3_move 44 = .ok (.getfield 22, 3) := by decide +kernel
theorem dX3_move_47 : decode cX3_move 47 = .ok (.iload_n 2, 1) := by decide +kernel
theorem dX3_move_48 : decode cX3_move 48 = .ok (.aaload, 1) := by decide +kernel
theorem dX3_move_49 : decode cX3_move 49 = .ok (.iconst 1, 1) := by decide +kernel
theorem dX3_move_50 : decode cX3_move 50 = .ok (.putfield 97, 3) := by decide +kernel
theorem dX3_move_53 : decode cX3_move 53 = .ok (.aload_n 0, 1) := by decide +kernel
theorem dX3_move_54 : decode cX3_move 54 = .ok (.iload_n 3, 1) := by decide +kernel
theorem dX3_move_55 : decode cX3_move 55 = .ok (.invokevirtual 133, 3) := by decide +kernel
theorem dX3_move_58 : decode cX3_move 58 = .ok (.aload_n 0, 1) := by decide +kernel
theorem dX3_move_59 : decode cX3_move 59 = .ok (.iload_n 2, 1) := by decide +kernel
theorem dX3_move_60 : decode cX3_move 60 = .ok (.invokevirtual 133, 3) := by decide +kernel
theorem dX3_move_63 : decode cX3_move 63 = .ok (.iload_n 3, 1) := by decide +kernel
theorem dX3_move_64 : decode cX3_move 64 = .ok (.ireturn, 1) := by decide +kernel
theorem dX3_vouchers_0 : decode cX3_vouchers 0 = .ok (.aload_n 0, 1) := by decide +kernel
theorem dX3_vouchers_1 : decode cX3_vouchers 1 = .ok (.getfield 35, 3) := by decide +kernel
theorem dX3_vouchers_4 : decode cX3_vouchers 4 = .ok (.ireturn, 1) := by decide +kernel
set_option maxRecDepth 20000 in
theorem ggX3_wellOf_X3_requireVoucher : GoodIn wsX3_wellOf wsX3_requireVoucher := goodIn_ca (goodIn_r _ [6, 7, 8, 9, 10, 11, 12, 13, 14, 15, 16, 17, 18, 19, 20, 21, 22, 23, 24] (by decide +kernel) (by decide +kernel)) (goodIn_sub (fun _ h => List.mem_cons_of_mem _ (List.mem_append_right _ h)) (by decide +kernel))
set_option maxRecDepth 20000 in
theorem gX3_wellOf_X3_requireVoucher : GoodIn wsX3_wellOf (wsV RX3 128 RX3 yX3_requireVoucher wsX3_requireVoucher) := goodIn_app (goodIn_of _ (by decide +kernel)) ggX3_wellOf_X3_requireVoucher
theorem dX3_wellOf_0 : decode cX3_wellOf 0 = .ok (.aload_n 0, 1) := by decide +kernel
theorem dX3_wellOf_1 : decode cX3_wellOf 1 = .ok (.iload_n 1, 1) := by decide +kernel
theorem dX3_wellOf_2 : decode cX3_wellOf 2 = .ok (.invokevirtual 128, 3) := by decide +kernel
theorem dX3_wellOf_5 : decode cX3_wellOf 5 = .ok (.aload_n 0, 1) := by decide +kernel
theorem dX3_wellOf_6 : decode cX3_wellOf 6 = .ok (.getfield 29, 3) := by decide +kernel
theorem dX3_wellOf_9 : decode cX3_wellOf 9 = .ok (.iload_n 1, 1) := by decide +kernel
theorem dX3_wellOf_10 : decode cX3_wellOf 10 = .ok (.iaload, 1) := by decide +kernel
theorem dX3_wellOf_11 : decode cX3_wellOf 11 = .ok (.ireturn, 1) := by decide +kernel
set_option maxRecDepth 20000 in
theorem ggX3_amountOf_X3_requireVoucher : GoodIn wsX3_amountOf wsX3_requireVoucher := goodIn_ca (goodIn_r _ [6, 7, 8, 9, 10, 11, 12, 13, 14, 15, 16, 17, 18, 19, 20, 21, 22, 23, 24] (by decide +kernel) (by decide +kernel)) (goodIn_sub (fun _ h => List.mem_cons_of_mem _ (List.mem_append_right _ h)) (by decide +kernel))
set_option maxRecDepth 20000 in
theorem gX3_amountOf_X3_requireVoucher : GoodIn wsX3_amountOf (wsV RX3 128 RX3 yX3_requireVoucher wsX3_requireVoucher) := goodIn_app (goodIn_of _ (by decide +kernel)) ggX3_amountOf_X3_requireVoucher
theorem dX3_amountOf_0 : decode cX3_amountOf 0 = .ok (.aload_n 0, 1) := by decide +kernel
theorem dX3_amountOf_1 : decode cX3_amountOf 1 = .ok (.iload_n 1, 1) := by decide +kernel
theorem dX3_amountOf_2 : decode cX3_amountOf 2 = .ok (.invokevirtual 128, 3) := by decide +kernel
theorem dX3_amountOf_5 : decode cX3_amountOf 5 = .ok (.aload_n 0, 1) := by decide +kernel
theorem dX3_amountOf_6 : decode cX3_amountOf 6 = .ok (.getfield 32, 3) := by decide +kernel
theorem dX3_amountOf_9 : decode cX3_amountOf 9 = .ok (.iload_n 1, 1) := by decide +kernel
theorem dX3_amountOf_10 : decode cX3_amountOf 10 = .ok (.iaload, 1) := by decide +kernel
theorem dX3_amountOf_11 : decode cX3_amountOf 11 = .ok (.ireturn, 1) := by decide +kernel
set_option maxRecDepth 20000 in
theorem ggX3_isIn_X3_requireWell : GoodIn wsX3_isIn wsX3_requireWell := goodIn_ca (goodIn_r _ [6, 7, 8, 9, 20, 21, 22, 23, 24, 25, 26, 27, 28, 29, 30, 31, 32, 33, 34] (by decide +kernel) (by decide +kernel)) (goodIn_sub (fun _ h => List.mem_cons_of_mem _ (List.mem_append_right _ h)) (by decide +kernel))
set_option maxRecDepth 20000 in
theorem gX3_isIn_X3_requireWell : GoodIn wsX3_isIn (wsV RX3 90 RX3 yX3_requireWell wsX3_requireWell) := goodIn_app (goodIn_of _ (by decide +kernel)) ggX3_isIn_X3_requireWell
set_option maxRecDepth 20000 in
theorem ggX3_isIn_X3_requirePartner : GoodIn wsX3_isIn wsX3_requirePartner := goodIn_ca (goodIn_r _ [13, 7, 8] (by decide +kernel) (by decide +kernel)) (goodIn_sub (fun _ h => List.mem_cons_of_mem _ (List.mem_append_right _ h)) (by decide +kernel))
set_option maxRecDepth 20000 in
theorem gX3_isIn_X3_requirePartner : GoodIn wsX3_isIn (wsV RX3 94 RX3 yX3_requirePartner wsX3_requirePartner) := goodIn_app (goodIn_of _ (by decide +kernel)) ggX3_isIn_X3_requirePartner
set_option maxRecDepth 20000 in
theorem ggX3_isIn_X3_shareIfIn : GoodIn wsX3_isIn wsX3_shareIfIn := goodIn_r _ [17, 18, 19, 35, 36, 37, 38, 39, 40, 41, 42, 20, 21, 22, 23, 24, 25, 26, 27, 28, 29, 30, 31, 32, 33, 34] (by decide +kernel) (by decide +kernel)
set_option maxRecDepth 20000 in
theorem gX3_isIn_X3_shareIfIn : GoodIn wsX3_isIn (wsV RX3 136 RX3 yX3_shareIfIn wsX3_shareIfIn) := goodIn_app (goodIn_of _ (by decide +kernel)) ggX3_isIn_X3_shareIfIn
theorem dX3_isIn_0 : decode cX3_isIn 0 = .ok (.aload_n 0, 1) := by decide +kernel
theorem dX3_isIn_1 : decode cX3_isIn 1 = .ok (.iload_n 1, 1) := by decide +kernel
theorem dX3_isIn_2 : decode cX3_isIn 2 = .ok (.invokevirtual 90, 3) := by decide +kernel
theorem dX3_isIn_5 : decode cX3_isIn 5 = .ok (.aload_n 0, 1) := by decide +kernel
theorem dX3_isIn_6 : decode cX3_isIn 6 = .ok (.iload_n 2, 1) := by decide +kernel
theorem dX3_isIn_7 : decode cX3_isIn 7 = .ok (.invokevirtual 94, 3) := by decide +kernel
theorem dX3_isIn_10 : decode cX3_isIn 10 = .ok (.aload_n 0, 1) := by decide +kernel
theorem dX3_isIn_11 : decode cX3_isIn 11 = .ok (.aload_n 0, 1) := by decide +kernel
theorem dX3_isIn_12 : decode cX3_isIn 12 = .ok (.getfield 22, 3) := by decide +kernel
theorem dX3_isIn_15 : decode cX3_isIn 15 = .ok (.iload_n 1, 1) := by decide +kernel
theorem dX3_isIn_16 : decode cX3_isIn 16 = .ok (.aaload, 1) := by decide +kernel
theorem dX3_isIn_17 : decode cX3_isIn 17 = .ok (.iload_n 2, 1) := by decide +kernel
theorem dX3_isIn_18 : decode cX3_isIn 18 = .ok (.invokevirtual 136, 3) := by decide +kernel
theorem dX3_isIn_21 : decode cX3_isIn 21 = .ok (.ifCond .le 7, 3) := by decide +kernel
theorem dX3_isIn_24 : decode cX3_isIn 24 = .ok (.iconst 1, 1) := by decide +kernel
theorem dX3_isIn_25 : decode cX3_isIn 25 = .ok (.goto 4, 3) := by decide +kernel
theorem dX3_isIn_28 : decode cX3_isIn 28 = .ok (.iconst 0, 1) := by decide +kernel
theorem dX3_isIn_29 : decode cX3_isIn 29 = .ok (.ireturn, 1) := by decide +kernel
set_option maxRecDepth 20000 in
theorem ggX3_toEarn_X3_requireWell : GoodIn wsX3_toEarn wsX3_requireWell := goodIn_ca (goodIn_r _ [7, 8, 9, 10, 15, 16, 17, 18, 19, 20, 21, 22, 23, 24, 25, 26, 27, 28, 29] (by decide +kernel) (by decide +kernel)) (goodIn_sub (fun _ h => List.mem_cons_of_mem _ (List.mem_append_right _ h)) (by decide +kernel))
set_option maxRecDepth 20000 in
theorem gX3_toEarn_X3_requireWell : GoodIn wsX3_toEarn (wsV RX3 90 RX3 yX3_requireWell wsX3_requireWell) := goodIn_app (goodIn_of _ (by decide +kernel)) ggX3_toEarn_X3_requireWell
set_option maxRecDepth 20000 in
theorem ggX3_toEarn_X3_requirePartner : GoodIn wsX3_toEarn wsX3_requirePartner := goodIn_ca (goodIn_r _ [14, 8, 9] (by decide +kernel) (by decide +kernel)) (goodIn_sub (fun _ h => List.mem_cons_of_mem _ (List.mem_append_right _ h)) (by decide +kernel))
set_option maxRecDepth 20000 in
theorem gX3_toEarn_X3_requirePartner : GoodIn wsX3_toEarn (wsV RX3 94 RX3 yX3_requirePartner wsX3_requirePartner) := goodIn_app (goodIn_of _ (by decide +kernel)) ggX3_toEarn_X3_requirePartner
theorem dX3_toEarn_0 : decode cX3_toEarn 0 = .ok (.aload_n 0, 1) := by decide +kernel
theorem dX3_toEarn_1 : decode cX3_toEarn 1 = .ok (.iload_n 1, 1) := by decide +kernel
theorem dX3_toEarn_2 : decode cX3_toEarn 2 = .ok (.invokevirtual 90, 3) := by decide +kernel
theorem dX3_toEarn_5 : decode cX3_toEarn 5 = .ok (.aload_n 0, 1) := by decide +kernel
theorem dX3_toEarn_6 : decode cX3_toEarn 6 = .ok (.iload_n 2, 1) := by decide +kernel
theorem dX3_toEarn_7 : decode cX3_toEarn 7 = .ok (.invokevirtual 94, 3) := by decide +kernel
theorem dX3_toEarn_10 : decode cX3_toEarn 10 = .ok (.aload_n 0, 1) := by decide +kernel
theorem dX3_toEarn_11 : decode cX3_toEarn 11 = .ok (.getfield 22, 3) := by decide +kernel
theorem dX3_toEarn_14 : decode cX3_toEarn 14 = .ok (.iload_n 1, 1) := by decide +kernel
theorem dX3_toEarn_15 : decode cX3_toEarn 15 = .ok (.aaload, 1) := by decide +kernel
theorem dX3_toEarn_16 : decode cX3_toEarn 16 = .ok (.getfield 140, 3) := by decide +kernel
theorem dX3_toEarn_19 : decode cX3_toEarn 19 = .ok (.iload_n 2, 1) := by decide +kernel
theorem dX3_toEarn_20 : decode cX3_toEarn 20 = .ok (.laload, 1) := by decide +kernel
theorem dX3_toEarn_21 : decode cX3_toEarn 21 = .ok (.lreturn, 1) := by decide +kernel
set_option maxRecDepth 20000 in
theorem ggX3_backAt_X3_requireWell : GoodIn wsX3_backAt wsX3_requireWell := goodIn_ca (goodIn_r _ [7, 8, 9, 10, 15, 16, 17, 18, 19, 20, 21, 22, 23, 24, 25, 26, 27, 28, 29] (by decide +kernel) (by decide +kernel)) (goodIn_sub (fun _ h => List.mem_cons_of_mem _ (List.mem_append_right _ h)) (by decide +kernel))
set_option maxRecDepth 20000 in
theorem gX3_backAt_X3_requireWell : GoodIn wsX3_backAt (wsV RX3 90 RX3 yX3_requireWell wsX3_requireWell) := goodIn_app (goodIn_of _ (by decide +kernel)) ggX3_backAt_X3_requireWell
set_option maxRecDepth 20000 in
theorem ggX3_backAt_X3_requirePartner : GoodIn wsX3_backAt wsX3_requirePartner := goodIn_ca (goodIn_r _ [14, 8, 9] (by decide +kernel) (by decide +kernel)) (goodIn_sub (fun _ h => List.mem_cons_of_mem _ (List.mem_append_right _ h)) (by decide +kernel))
set_option maxRecDepth 20000 in
theorem gX3_backAt_X3_requirePartner : GoodIn wsX3_backAt (wsV RX3 94 RX3 yX3_requirePartner wsX3_requirePartner) := goodIn_app (goodIn_of _ (by decide +kernel)) ggX3_backAt_X3_requirePartner
theorem dX3_backAt_0 : decode cX3_backAt 0 = .ok (.aload_n 0, 1) := by decide +kernel
theorem dX3_backAt_1 : decode cX3_backAt 1 = .ok (.iload_n 1, 1) := by decide +kernel
theorem dX3_backAt_2 : decode cX3_backAt 2 = .ok (.invokevirtual 90, 3) := by decide +kernel
theorem dX3_backAt_5 : decode cX3_backAt 5 = .ok (.aload_n 0, 1) := by decide +kernel
theorem dX3_backAt_6 : decode cX3_backAt 6 = .ok (.iload_n 2, 1) := by decide +kernel
theorem dX3_backAt_7 : decode cX3_backAt 7 = .ok (.invokevirtual 94, 3) := by decide +kernel
theorem dX3_backAt_10 : decode cX3_backAt 10 = .ok (.aload_n 0, 1) := by decide +kernel
theorem dX3_backAt_11 : decode cX3_backAt 11 = .ok (.getfield 22, 3) := by decide +kernel
theorem dX3_backAt_14 : decode cX3_backAt 14 = .ok (.iload_n 1, 1) := by decide +kernel
theorem dX3_backAt_15 : decode cX3_backAt 15 = .ok (.aaload, 1) := by decide +kernel
theorem dX3_backAt_16 : decode cX3_backAt 16 = .ok (.getfield 144, 3) := by decide +kernel
theorem dX3_backAt_19 : decode cX3_backAt 19 = .ok (.iload_n 2, 1) := by decide +kernel
theorem dX3_backAt_20 : decode cX3_backAt 20 = .ok (.iaload, 1) := by decide +kernel
theorem dX3_backAt_21 : decode cX3_backAt 21 = .ok (.ireturn, 1) := by decide +kernel
set_option maxRecDepth 20000 in
theorem ggX3_charged_X3_requireWell : GoodIn wsX3_charged wsX3_requireWell := goodIn_ca (goodIn_r _ [7, 8, 9, 10, 15, 16, 17, 18, 19, 20, 21, 22, 23, 24, 25, 26, 27, 28, 29] (by decide +kernel) (by decide +kernel)) (goodIn_sub (fun _ h => List.mem_cons_of_mem _ (List.mem_append_right _ h)) (by decide +kernel))
set_option maxRecDepth 20000 in
theorem gX3_charged_X3_requireWell : GoodIn wsX3_charged (wsV RX3 90 RX3 yX3_requireWell wsX3_requireWell) := goodIn_app (goodIn_of _ (by decide +kernel)) ggX3_charged_X3_requireWell
set_option maxRecDepth 20000 in
theorem ggX3_charged_X3_requirePartner : GoodIn wsX3_charged wsX3_requirePartner := goodIn_ca (goodIn_r _ [14, 8, 9] (by decide +kernel) (by decide +kernel)) (goodIn_sub (fun _ h => List.mem_cons_of_mem _ (List.mem_append_right _ h)) (by decide +kernel))
set_option maxRecDepth 20000 in
theorem gX3_charged_X3_requirePartner : GoodIn wsX3_charged (wsV RX3 94 RX3 yX3_requirePartner wsX3_requirePartner) := goodIn_app (goodIn_of _ (by decide +kernel)) ggX3_charged_X3_requirePartner
theorem dX3_charged_0 : decode cX3_charged 0 = .ok (.aload_n 0, 1) := by decide +kernel
theorem dX3_charged_1 : decode cX3_charged 1 = .ok (.iload_n 1, 1) := by decide +kernel
theorem dX3_charged_2 : decode cX3_charged 2 = .ok (.invokevirtual 90, 3) := by decide +kernel
theorem dX3_charged_5 : decode cX3_charged 5 = .ok (.aload_n 0, 1) := by decide +kernel
theorem dX3_charged_6 : decode cX3_charged 6 = .ok (.iload_n 2, 1) := by decide +kernel
theorem dX3_charged_7 : decode cX3_charged 7 = .ok (.invokevirtual 94, 3) := by decide +kernel
theorem dX3_charged_10 : decode cX3_charged 10 = .ok (.aload_n 0, 1) := by decide +kernel
theorem dX3_charged_11 : decode cX3_charged 11 = .ok (.getfield 22, 3) := by decide +kernel
theorem dX3_charged_14 : decode cX3_charged 14 = .ok (.iload_n 1, 1) := by decide +kernel
theorem dX3_charged_15 : decode cX3_charged 15 = .ok (.aaload, 1) := by decide +kernel
theorem dX3_charged_16 : decode cX3_charged 16 = .ok (.getfield 147, 3) := by decide +kernel
theorem dX3_charged_19 : decode cX3_charged 19 = .ok (.iload_n 2, 1) := by decide +kernel
theorem dX3_charged_20 : decode cX3_charged 20 = .ok (.iaload, 1) := by decide +kernel
theorem dX3_charged_21 : decode cX3_charged 21 = .ok (.ireturn, 1) := by decide +kernel
set_option maxRecDepth 20000 in
theorem ggX3_credited_X3_requireWell : GoodIn wsX3_credited wsX3_requireWell := goodIn_ca (goodIn_r _ [7, 8, 9, 10, 15, 16, 17, 18, 19, 20, 21, 22, 23, 24, 25, 26, 27, 28, 29] (by decide +kernel) (by decide +kernel)) (goodIn_sub (fun _ h => List.mem_cons_of_mem _ (List.mem_append_right _ h)) (by decide +kernel))
set_option maxRecDepth 20000 in
theorem gX3_credited_X3_requireWell : GoodIn wsX3_credited (wsV RX3 90 RX3 yX3_requireWell wsX3_requireWell) := goodIn_app (goodIn_of _ (by decide +kernel)) ggX3_credited_X3_requireWell
set_option maxRecDepth 20000 in
theorem ggX3_credited_X3_requirePartner : GoodIn wsX3_credited wsX3_requirePartner := goodIn_ca (goodIn_r _ [14, 8, 9] (by decide +kernel) (by decide +kernel)) (goodIn_sub (fun _ h => List.mem_cons_of_mem _ (List.mem_append_right _ h)) (by decide +kernel))
set_option maxRecDepth 20000 in
theorem gX3_credited_X3_requirePartner : GoodIn wsX3_credited (wsV RX3 94 RX3 yX3_requirePartner wsX3_requirePartner) := goodIn_app (goodIn_of _ (by decide +kernel)) ggX3_credited_X3_requirePartner
theorem dX3_credited_0 : decode cX3_credited 0 = .ok (.aload_n 0, 1) := by decide +kernel
theorem dX3_credited_1 : decode cX3_credited 1 = .ok (.iload_n 1, 1) := by decide +kernel
theorem dX3_credited_2 : decode cX3_credited 2 = .ok (.invokevirtual 90, 3) := by decide +kernel
theorem dX3_credited_5 : decode cX3_credited 5 = .ok (.aload_n 0, 1) := by decide +kernel
theorem dX3_credited_6 : decode cX3_credited 6 = .ok (.iload_n 2, 1) := by decide +kernel
theorem dX3_credited_7 : decode cX3_credited 7 = .ok (.invokevirtual 94, 3) := by decide +kernel
theorem dX3_credited_10 : decode cX3_credited 10 = .ok (.aload_n 0, 1) := by decide +kernel
theorem dX3_credited_11 : decode cX3_credited 11 = .ok (.getfield 22, 3) := by decide +kernel
theorem dX3_credited_14 : decode cX3_credited 14 = .ok (.iload_n 1, 1) := by decide +kernel
theorem dX3_credited_15 : decode cX3_credited 15 = .ok (.aaload, 1) := by decide +kernel
theorem dX3_credited_16 : decode cX3_credited 16 = .ok (.getfield 150, 3) := by decide +kernel
theorem dX3_credited_19 : decode cX3_credited 19 = .ok (.iload_n 2, 1) := by decide +kernel
theorem dX3_credited_20 : decode cX3_credited 20 = .ok (.iaload, 1) := by decide +kernel
theorem dX3_credited_21 : decode cX3_credited 21 = .ok (.ireturn, 1) := by decide +kernel
set_option maxRecDepth 20000 in
theorem ggX3_weight_X3_requireWell : GoodIn wsX3_weight wsX3_requireWell := goodIn_ca (goodIn_r _ [7, 8, 9, 10, 51, 52, 53, 54, 55, 56, 57, 58, 59, 60, 61, 62, 63, 64, 65] (by decide +kernel) (by decide +kernel)) (goodIn_sub (fun _ h => List.mem_cons_of_mem _ (List.mem_append_right _ h)) (by decide +kernel))
set_option maxRecDepth 20000 in
theorem gX3_weight_X3_requireWell : GoodIn wsX3_weight (wsV RX3 90 RX3 yX3_requireWell wsX3_requireWell) := goodIn_app (goodIn_of _ (by decide +kernel)) ggX3_weight_X3_requireWell
set_option maxRecDepth 20000 in
theorem ggX3_weight_X3_requirePartner : GoodIn wsX3_weight wsX3_requirePartner := goodIn_ca (goodIn_r _ [14, 8, 9] (by decide +kernel) (by decide +kernel)) (goodIn_sub (fun _ h => List.mem_cons_of_mem _ (List.mem_append_right _ h)) (by decide +kernel))
set_option maxRecDepth 20000 in
theorem gX3_weight_X3_requirePartner : GoodIn wsX3_weight (wsV RX3 94 RX3 yX3_requirePartner wsX3_requirePartner) := goodIn_app (goodIn_of _ (by decide +kernel)) ggX3_weight_X3_requirePartner
set_option maxRecDepth 20000 in
theorem ggX3_weight_X3_divideCost : GoodIn wsX3_weight wsX3_divideCost := goodIn_r _ [18, 19, 20, 21, 22, 2, 23, 24, 25, 26, 27, 28, 29, 30, 31, 32, 33, 34, 35, 36, 37, 38, 39, 40, 41, 6, 42, 43, 44, 45, 46, 47, 48, 49, 50, 51, 52, 53, 54, 55, 56, 57, 58, 59, 60, 61, 62, 63, 64, 65, 66, 67, 68, 69, 70, 71, 72, 73, 74] (by decide +kernel) (by decide +kernel)
set_option maxRecDepth 20000 in
theorem gX3_weight_X3_divideCost : GoodIn wsX3_weight (wsV RX3 153 RX3 yX3_divideCost wsX3_divideCost) := goodIn_app (goodIn_of _ (by decide +kernel)) ggX3_weight_X3_divideCost
theorem dX3_weight_0 : decode cX3_weight 0 = .ok (.aload_n 0, 1) := by decide +kernel
theorem dX3_weight_1 : decode cX3_weight 1 = .ok (.iload_n 1, 1) := by decide +kernel
theorem dX3_weight_2 : decode cX3_weight 2 = .ok (.invokevirtual 90, 3) := by decide +kernel
theorem dX3_weight_5 : decode cX3_weight 5 = .ok (.aload_n 0, 1) := by decide +kernel
theorem dX3_weight_6 : decode cX3_weight 6 = .ok (.iload_n 2, 1) := by decide +kernel
theorem dX3_weight_7 : decode cX3_weight 7 = .ok (.invokevirtual 94, 3) := by decide +kernel
theorem dX3_weight_10 : decode cX3_weight 10 = .ok (.aload_n 0, 1) := by decide +kernel
theorem dX3_weight_11 : decode cX3_weight 11 = .ok (.aload_n 0, 1) := by decide +kernel
theorem dX3_weight_12 : decode cX3_weight 12 = .ok (.getfield 22, 3) := by decide +kernel
theorem dX3_weight_15 : decode cX3_weight 15 = .ok (.iload_n 1, 1) := by decide +kernel
theorem dX3_weight_16 : decode cX3_weight 16 = .ok (.aaload, 1) := by decide +kernel
theorem dX3_weight_17 : decode cX3_weight 17 = .ok (.sipush 10000, 3) := by decide +kernel
theorem dX3_weight_20 : decode cX3_weight 20 = .ok (.invokevirtual 153, 3) := by decide +kernel
theorem dX3_weight_23 : decode cX3_weight 23 = .ok (.aload_n 0, 1) := by decide +kernel
theorem dX3_weight_24 : decode cX3_weight 24 = .ok (.getfield 63, 3) := by decide +kernel
theorem dX3_weight_27 : decode cX3_weight 27 = .ok (.iload_n 2, 1) := by decide +kernel
theorem dX3_weight_28 : decode cX3_weight 28 = .ok (.iaload, 1) := by decide +kernel
theorem dX3_weight_29 : decode cX3_weight 29 = .ok (.ireturn, 1) := by decide +kernel
set_option maxRecDepth 20000 in
theorem ggX3_call_X3_requireWell : GoodIn wsX3_call wsX3_requireWell := goodIn_ca (goodIn_r _ [14, 15, 16, 17, 59, 60, 61, 62, 63, 64, 65, 66, 67, 68, 69, 70, 71, 72, 73] (by decide +kernel) (by decide +kernel)) (goodIn_sub (fun _ h => List.mem_cons_of_mem _ (List.mem_append_left _ (List.mem_append_right _ h))) (by decide +kernel))
set_option maxRecDepth 20000 in
theorem gX3_call_X3_requireWell : GoodIn wsX3_call (wsV RX3 90 RX3 yX3_requireWell wsX3_requireWell) := goodIn_app (goodIn_of _ (by decide +kernel)) ggX3_call_X3_requireWell
set_option maxRecDepth 20000 in
theorem ggX3_call_X3_requireRange : GoodIn wsX3_call wsX3_requireRange := goodIn_ca (goodIn_r _ [21, 22, 23] (by decide +kernel) (by decide +kernel)) (goodIn_sub (fun _ h => List.mem_cons_of_mem _ (List.mem_append_right _ h)) (by decide +kernel))
set_option maxRecDepth 20000 in
theorem gX3_call_X3_requireRange : GoodIn wsX3_call (wsV RX3 68 RX3 yX3_requireRange wsX3_requireRange) := goodIn_app (goodIn_of _ (by decide +kernel)) ggX3_call_X3_requireRange
set_option maxRecDepth 20000 in
theorem ggX3_call_X3_divideCost : GoodIn wsX3_call wsX3_divideCost := goodIn_r _ [27, 6, 28, 29, 30, 7, 31, 32, 33, 34, 35, 36, 37, 38, 39, 40, 41, 42, 43, 44, 45, 46, 47, 48, 49, 13, 50, 51, 52, 53, 54, 55, 56, 57, 58, 59, 60, 61, 62, 63, 64, 65, 66, 67, 68, 69, 70, 71, 72, 73, 76, 77, 78, 79, 80, 81, 82, 83, 84] (by decide +kernel) (by decide +kernel)
set_option maxRecDepth 20000 in
theorem gX3_call_X3_divideCost : GoodIn wsX3_call (wsV RX3 153 RX3 yX3_divideCost wsX3_divideCost) := goodIn_app (goodIn_of _ (by decide +kernel)) ggX3_call_X3_divideCost
set_option maxRecDepth 20000 in
theorem ggX3_call_X1_divide : GoodIn wsX3_call wsX1_divide := goodIn_r _ [36, 37, 38, 39, 40, 41, 42, 43, 44, 45, 35, 46, 84] (by decide +kernel) (by decide +kernel)
set_option maxRecDepth 20000 in
theorem gX3_call_X1_divide : GoodIn wsX3_call (wsV RX3 162 RX1 yX1_divide wsX1_divide) := goodIn_app (goodIn_of _ (by decide +kernel)) ggX3_call_X1_divide
theorem dX3_call_0 : decode cX3_call 0 = .ok (.aload_n 0, 1) := by decide +kernel
theorem dX3_call_1 : decode cX3_call 1 = .ok (.iload_n 1, 1) := by decide +kernel
theorem dX3_call_2 : decode cX3_call 2 = .ok (.invokevirtual 90, 3) := by decide +kernel
theorem dX3_call_5 : decode cX3_call 5 = .ok (.aload_n 0, 1) := by decide +kernel
theorem dX3_call_6 : decode cX3_call 6 = .ok (.iload_n 2, 1) := by decide +kernel
theorem dX3_call_7 : decode cX3_call 7 = .ok (.iconst 1, 1) := by decide +kernel
theorem dX3_call_8 : decode cX3_call 8 = .ok (.ldc 118, 2) := by decide +kernel
theorem dX3_call_10 : decode cX3_call 10 = .ok (.invokevirtual 68, 3) := by decide +kernel
theorem dX3_call_13 : decode cX3_call 13 = .ok (.aload_n 0, 1) := by decide +kernel
theorem dX3_call_14 : decode cX3_call 14 = .ok (.getfield 44, 3) := by decide +kernel
theorem dX3_call_17 : decode cX3_call 17 = .ok (.bipush 20, 2) := by decide +kernel
theorem dX3_call_19 : decode cX3_call 19 = .ok (.if_icmp .lt 13, 3) := by decide +kernel
theorem dX3_call_22 : decode cX3_call 22 = .ok (.new 79, 3) := by decide +kernel
theorem dX3_call_25 : decode cX3_call 25 = .ok (.dup, 1) := by decide +kernel
theorem dX3_call_26 : decode cX3_call 26 = .ok (.ldc 157, 2) := by decide +kernel
theorem dX3_call_28 : decode cX3_call 28 = .ok (.invokespecial 83, 3) := by decide +kernel
theorem dX3_call_31 : decode cX3_call 31 = .ok (.athrow, 1) := by decide +kernel
theorem dX3_call_32 : decode cX3_call 32 = .ok (.aload_n 0, 1) := by decide +kernel
theorem dX3_call_33 : decode cX3_call 33 = .ok (.aload_n 0, 1) := by decide +kernel
theorem dX3_call_34 : decode cX3_call 34 = .ok (.getfield 22, 3) := by decide +kernel
theorem dX3_call_37 : decode cX3_call 37 = .ok (.iload_n 1, 1) := by decide +kernel
theorem dX3_call_38 : decode cX3_call 38 = .ok (.aaload, 1) := by decide +kernel
theorem dX3_call_39 : decode cX3_call 39 = .ok (.sipush 10000, 3) := by decide +kernel
theorem dX3_call_42 : decode cX3_call 42 = .ok (.invokevirtual 153, 3) := by decide +kernel
theorem dX3_call_45 : decode cX3_call 45 = .ok (.aload_n 0, 1) := by decide +kernel
theorem dX3_call_46 : decode cX3_call 46 = .ok (.getfield 53, 3) := by decide +kernel
theorem dX3_call_49 : decode cX3_call 49 = .ok (.iload_n 2, 1) := by decide +kernel
theorem dX3_call_50 : decode cX3_call 50 = .ok (.aload_n 0, 1) := by decide +kernel
theorem dX3_call_51 : decode cX3_call 51 = .ok (.getfield 63, 3) := by decide +kernel
theorem dX3_call_54 : decode cX3_call 54 = .ok (.aload_n 0, 1) := by decide +kernel
theorem dX3_call_55 : decode cX3_call 55 = .ok (.getfield 40, 3) := by decide +kernel
theorem dX3_call_58 : decode cX3_call 58 = .ok (.aload_n 0, 1) := by decide +kernel
theorem dX3_call_59 : decode cX3_call 59 = .ok (.getfield 44, 3) := by decide +kernel
theorem dX3_call_62 : decode cX3_call 62 = .ok (.aaload, 1) := by decide +kernel
theorem dX3_call_63 : decode cX3_call 63 = .ok (.getfield 159, 3) := by decide +kernel
theorem dX3_call_66 : decode cX3_call 66 = .ok (.invokevirtual 162, 3) := by decide +kernel
theorem dX3_call_69 : decode cX3_call 69 = .ok (.aload_n 0, 1) := by decide +kernel
theorem dX3_call_70 : decode cX3_call 70 = .ok (.dup, 1) := by decide +kernel
theorem dX3_call_71 : decode cX3_call 71 = .ok (.getfield 44, 3) := by decide +kernel
theorem dX3_call_74 : decode cX3_call 74 = .ok (.iconst 1, 1) := by decide +kernel
theorem dX3_call_75 : decode cX3_call 75 = .ok (.iadd, 1) := by decide +kernel
theorem dX3_call_76 : decode cX3_call 76 = .ok (.putfield 44, 3) := by decide +kernel
theorem dX3_call_79 : decode cX3_call 79 = .ok (.aload_n 0, 1) := by decide +kernel
theorem dX3_call_80 : decode cX3_call 80 = .ok (.getfield 44, 3) := by decide +kernel
theorem dX3_call_83 : decode cX3_call 83 = .ok (.iconst 1, 1) := by decide +kernel
theorem dX3_call_84 : decode cX3_call 84 = .ok (.isub, 1) := by decide +kernel
theorem dX3_call_85 : decode cX3_call 85 = .ok (.ireturn, 1) := by decide +kernel
set_option maxRecDepth 20000 in
theorem ggX3_pay_X3_requireCashCall : GoodIn wsX3_pay wsX3_requireCashCall := goodIn_ca (goodIn_r _ [10, 11, 12, 13, 18, 19, 20, 21, 22, 23, 24, 25, 26, 27, 28, 29, 30, 31, 32] (by decide +kernel) (by decide +kernel)) (goodIn_sub (fun _ h => List.mem_cons_of_mem _ (List.mem_append_right _ h)) (by decide +kernel))
set_option maxRecDepth 20000 in
theorem gX3_pay_X3_requireCashCall : GoodIn wsX3_pay (wsV RX3 166 RX3 yX3_requireCashCall wsX3_requireCashCall) := goodIn_app (goodIn_of _ (by decide +kernel)) ggX3_pay_X3_requireCashCall
set_option maxRecDepth 20000 in
theorem ggX3_pay_X3_requirePartner : GoodIn wsX3_pay wsX3_requirePartner := goodIn_ca (goodIn_r _ [17, 11, 12] (by decide +kernel) (by decide +kernel)) (goodIn_sub (fun _ h => List.mem_cons_of_mem _ (List.mem_append_right _ h)) (by decide +kernel))
set_option maxRecDepth 20000 in
theorem gX3_pay_X3_requirePartner : GoodIn wsX3_pay (wsV RX3 94 RX3 yX3_requirePartner wsX3_requirePartner) := goodIn_app (goodIn_of _ (by decide +kernel)) ggX3_pay_X3_requirePartner
theorem dX3_pay_0 : decode cX3_pay 0 = .ok (.aload_n 0, 1) := by decide +kernel
theorem dX3_pay_1 : decode cX3_pay 1 = .ok (.iload_n 1, 1) := by decide +kernel
theorem dX3_pay_2 : decode cX3_pay 2 = .ok (.invokevirtual 166, 3) := by decide +kernel
theorem dX3_pay_5 : decode cX3_pay 5 = .ok (.aload_n 0, 1) := by decide +kernel
theorem dX3_pay_6 : decode cX3_pay 6 = .ok (.iload_n 2, 1) := by decide +kernel
theorem dX3_pay_7 : decode cX3_pay 7 = .ok (.invokevirtual 94, 3) := by decide +kernel
theorem dX3_pay_10 : decode cX3_pay 10 = .ok (.aload_n 0, 1) := by decide +kernel
theorem dX3_pay_11 : decode cX3_pay 11 = .ok (.getfield 40, 3) := by decide +kernel
theorem dX3_pay_14 : decode cX3_pay 14 = .ok (.iload_n 1, 1) := by decide +kernel
theorem dX3_pay_15 : decode cX3_pay 15 = .ok (.aaload, 1) := by decide +kernel
theorem dX3_pay_16 : decode cX3_pay 16 = .ok (.astore_n 3, 1) := by decide +kernel
theorem dX3_pay_17 : decode cX3_pay 17 = .ok (.aload_n 3, 1) := by decide +kernel
theorem dX3_pay_18 : decode cX3_pay 18 = .ok (.getfield 159, 3) := by decide +kernel
theorem dX3_pay_21 : decode cX3_pay 21 = .ok (.iload_n 2, 1) := by decide +kernel
theorem dX3_pay_22 : decode cX3_pay 22 = .ok (.iaload, 1) := by decide +kernel
theorem dX3_pay_23 : decode cX3_pay 23 = .ok (.aload_n 3, 1) := by decide +kernel
theorem dX3_pay_24 : decode cX3_pay 24 = .ok (.getfield 169, 3) := by decide +kernel
theorem dX3_pay_27 : decode cX3_pay 27 = .ok (.iload_n 2, 1) := by decide +kernel
theorem dX3_pay_28 : decode cX3_pay 28 = .ok (.iaload, 1) := by decide +kernel
theorem dX3_pay_29 : decode cX3_pay 29 = .ok (.isub, 1) := by decide +kernel
theorem dX3_pay_30 : decode cX3_pay 30 = .ok (.istore 4, 2) := by decide +kernel
theorem dX3_pay_32 : decode cX3_pay 32 = .ok (.iload 4, 2) := by decide +kernel
theorem dX3_pay_34 : decode cX3_pay 34 = .ok (.ifCond .ne 13, 3) := by decide +kernel
theorem dX3_pay_37 : decode cX3_pay 37 = .ok (.new 79, 3) := by decide +kernel
theorem dX3_pay_40 : decode cX3_pay 40 = .ok (.dup, 1) := by decide +kernel
theorem dX3_pay_41 : decode cX3_pay 41 = .ok (.ldc 172, 2) := by decide +kernel
theorem dX3_pay_43 : decode cX3_pay 43 = .ok (.invokespecial 83, 3) := by decide +kernel
theorem dX3_pay_46 : decode cX3_pay 46 = .ok (.athrow, 1) := by decide +kernel
theorem dX3_pay_47 : decode cX3_pay 47 = .ok (.aload_n 3, 1) := by decide +kernel
theorem dX3_pay_48 : decode cX3_pay 48 = .ok (.getfield 169, 3) := by decide +kernel
theorem dX3_pay_51 : decode cX3_pay 51 = .ok (.iload_n 2, 1) := by decide +kernel
theorem dX3_pay_52 : decode cX3_pay 52 = .ok (.aload_n 3, 1) := by decide +kernel
theorem dX3_pay_53 : decode cX3_pay 53 = .ok (.getfield 159, 3) := by decide +kernel
theorem dX3_pay_56 : decode cX3_pay 56 = .ok (.iload_n 2, 1) := by decide +kernel
theorem dX3_pay_57 : decode cX3_pay 57 = .ok (.iaload, 1) := by decide +kernel
theorem dX3_pay_58 : decode cX3_pay 58 = .ok (.iastore, 1) := by decide +kernel
theorem dX3_pay_59 : decode cX3_pay 59 = .ok (.iload 4, 2) := by decide +kernel
theorem dX3_pay_61 : decode cX3_pay 61 = .ok (.ireturn, 1) := by decide +kernel
set_option maxRecDepth 20000 in
theorem ggX3_shareOut_X3_requireCashCall : GoodIn wsX3_shareOut wsX3_requireCashCall := goodIn_ca (goodIn_r _ [8, 9, 10, 11, 48, 49, 50, 51, 52, 53, 54, 55, 56, 57, 58, 59, 60, 61, 62] (by decide +kernel) (by decide +kernel)) (goodIn_sub (fun _ h => List.mem_cons_of_mem _ (List.mem_append_right _ h)) (by decide +kernel))
set_option maxRecDepth 20000 in
theorem gX3_shareOut_X3_requireCashCall : GoodIn wsX3_shareOut (wsV RX3 166 RX3 yX3_requireCashCall wsX3_requireCashCall) := goodIn_app (goodIn_of _ (by decide +kernel)) ggX3_shareOut_X3_requireCashCall
set_option maxRecDepth 20000 in
theorem ggX3_shareOut_X0_hasPayer : GoodIn wsX3_shareOut wsX0_hasPayer := goodIn_r _ [16, 17, 63, 64] (by decide +kernel) (by decide +kernel)
set_option maxRecDepth 20000 in
theorem gX3_shareOut_X0_hasPayer : GoodIn wsX3_shareOut (wsV RX3 174 RX0 yX0_hasPayer wsX0_hasPayer) := goodIn_app (goodIn_of _ (by decide +kernel)) ggX3_shareOut_X0_hasPayer
set_option maxRecDepth 20000 in
theorem ggX3_shareOut_X0_askedOfNonPayers : GoodIn wsX3_shareOut wsX0_askedOfNonPayers := goodIn_r _ [21, 17, 22, 63, 64] (by decide +kernel) (by decide +kernel)
set_option maxRecDepth 20000 in
theorem gX3_shareOut_X0_askedOfNonPayers : GoodIn wsX3_shareOut (wsV RX3 180 RX0 yX0_askedOfNonPayers wsX0_askedOfNonPayers) := goodIn_app (goodIn_of _ (by decide +kernel)) ggX3_shareOut_X0_askedOfNonPayers
set_option maxRecDepth 20000 in
theorem ggX3_shareOut_X3_moveToPayers : GoodIn wsX3_shareOut wsX3_moveToPayers := goodIn_r _ [26, 27, 28, 29, 30, 31, 32, 33, 34, 35, 36, 37, 38, 39, 40, 41, 42, 43, 44, 45, 46, 47, 48, 49, 50, 51, 52, 53, 54, 55, 56, 57, 58, 59, 60, 61, 62, 63, 64, 65] (by decide +kernel) (by decide +kernel)
set_option maxRecDepth 20000 in
theorem gX3_shareOut_X3_moveToPayers : GoodIn wsX3_shareOut (wsV RX3 186 RX3 yX3_moveToPayers wsX3_moveToPayers) := goodIn_app (goodIn_of _ (by decide +kernel)) ggX3_shareOut_X3_moveToPayers
theorem dX3_shareOut_0 : decode cX3_shareOut 0 = .ok (.aload_n 0, 1) := by decide +kernel
theorem dX3_shareOut_1 : decode cX3_shareOut 1 = .ok (.iload_n 1, 1) := by decide +kernel
theorem dX3_shareOut_2 : decode cX3_shareOut 2 = .ok (.invokevirtual 166, 3) := by decide +kernel
theorem dX3_shareOut_5 : decode cX3_shareOut 5 = .ok (.aload_n 0, 1) := by decide +kernel
theorem dX3_shareOut_6 : decode cX3_shareOut 6 = .ok (.getfield 40, 3) := by decide +kernel
theorem dX3_shareOut_9 : decode cX3_shareOut 9 = .ok (.iload_n 1, 1) := by decide +kernel
theorem dX3_shareOut_10 : decode cX3_shareOut 10 = .ok (.aaload, 1) := by decide +kernel
theorem dX3_shareOut_11 : decode cX3_shareOut 11 = .ok (.astore_n 2, 1) := by decide +kernel
theorem dX3_shareOut_12 : decode cX3_shareOut 12 = .ok (.aload_n 2, 1) := by decide +kernel
theorem dX3_shareOut_13 : decode cX3_shareOut 13 = .ok (.invokevirtual 174, 3) := by decide +kernel
theorem dX3_shareOut_16 : decode cX3_shareOut 16 = .ok (.ifCond .ne 13, 3) := by decide +kernel
theorem dX3_shareOut_19 : decode cX3_shareOut 19 = .ok (.new 79, 3) := by decide +kernel
theorem dX3_shareOut_22 : decode cX3_shareOut 22 = .ok (.dup, 1) := by decide +kernel
theorem dX3_shareOut_23 : decode cX3_shareOut 23 = .ok (.ldc 178, 2) := by decide +kernel
theorem dX3_shareOut_25 : decode cX3_shareOut 25 = .ok (.invokespecial 83, 3) := by decide +kernel
theorem dX3_shareOut_28 : decode cX3_shareOut 28 = .ok (.athrow, 1) := by decide +kernel
theorem dX3_shareOut_29 : decode cX3_shareOut 29 = .ok (.aload_n 2, 1) := by decide +kernel
theorem dX3_shareOut_30 : decode cX3_shareOut 30 = .ok (.invokevirtual 180, 3) := by decide +kernel
theorem dX3_shareOut_33 : decode cX3_shareOut 33 = .ok (.istore_n 3, 1) := by decide +kernel
theorem dX3_shareOut_34 : decode cX3_shareOut 34 = .ok (.iload_n 3, 1) := by decide +kernel
theorem dX3_shareOut_35 : decode cX3_shareOut 35 = .ok (.ifCond .ne 13, 3) := by decide +kernel
theorem dX3_shareOut_38 : decode cX3_shareOut 38 = .ok (.new 79, 3) := by decide +kernel
theorem dX3_shareOut_41 : decode cX3_shareOut 41 = .ok (.dup, 1) := by decide +kernel
theorem dX3_shareOut_42 : decode cX3_shareOut 42 = .ok (.ldc 184, 2) := by decide +kernel
theorem dX3_shareOut_44 : decode cX3_shareOut 44 = .ok (.invokespecial 83, 3) := by decide +kernel
theorem dX3_shareOut_47 : decode cX3_shareOut 47 = .ok (.athrow, 1) := by decide +kernel
theorem dX3_shareOut_48 : decode cX3_shareOut 48 = .ok (.aload_n 0, 1) := by decide +kernel
theorem dX3_shareOut_49 : decode cX3_shareOut 49 = .ok (.aload_n 2, 1) := by decide +kernel
theorem dX3_shareOut_50 : decode cX3_shareOut 50 = .ok (.iload_n 3, 1) := by decide +kernel
theorem dX3_shareOut_51 : decode cX3_shareOut 51 = .ok (.invokevirtual 186, 3) := by decide +kernel
theorem dX3_shareOut_54 : decode cX3_shareOut 54 = .ok (.iload_n 3, 1) := by decide +kernel
theorem dX3_shareOut_55 : decode cX3_shareOut 55 = .ok (.ireturn, 1) := by decide +kernel
set_option maxRecDepth 20000 in
theorem ggX3_asked_X3_requireCashCall : GoodIn wsX3_asked wsX3_requireCashCall := goodIn_ca (goodIn_r _ [7, 8, 9, 10, 15, 16, 17, 18, 19, 20, 21, 22, 23, 24, 25, 26, 27, 28, 29] (by decide +kernel) (by decide +kernel)) (goodIn_sub (fun _ h => List.mem_cons_of_mem _ (List.mem_append_right _ h)) (by decide +kernel))
set_option maxRecDepth 20000 in
theorem gX3_asked_X3_requireCashCall : GoodIn wsX3_asked (wsV RX3 166 RX3 yX3_requireCashCall wsX3_requireCashCall) := goodIn_app (goodIn_of _ (by decide +kernel)) ggX3_asked_X3_requireCashCall
set_option maxRecDepth 20000 in
theorem ggX3_asked_X3_requirePartner : GoodIn wsX3_asked wsX3_requirePartner := goodIn_ca (goodIn_r _ [14, 8, 9] (by decide +kernel) (by decide +kernel)) (goodIn_sub (fun _ h => List.mem_cons_of_mem _ (List.mem_append_right _ h)) (by decide +kernel))
set_option maxRecDepth 20000 in
theorem gX3_asked_X3_requirePartner : GoodIn wsX3_asked (wsV RX3 94 RX3 yX3_requirePartner wsX3_requirePartner) := goodIn_app (goodIn_of _ (by decide +kernel)) ggX3_asked_X3_requirePartner
theorem dX3_asked_0 : decode cX3_asked 0 = .ok (.aload_n 0, 1) := by decide +kernel
theorem dX3_asked_1 : decode cX3_asked 1 = .ok (.iload_n 1, 1) := by decide +kernel
theorem dX3_asked_2 : decode cX3_asked 2 = .ok (.invokevirtual 166, 3) := by decide +kernel
theorem dX3_asked_5 : decode cX3_asked 5 = .ok (.aload_n 0, 1) := by decide +kernel
theorem dX3_asked_6 : decode cX3_asked 6 = .ok (.iload_n 2, 1) := by decide +kernel
theorem dX3_asked_7 : decode cX3_asked 7 = .ok (.invokevirtual 94, 3) := by decide +kernel
theorem dX3_asked_10 : decode cX3_asked 10 = .ok (.aload_n 0, 1) := by decide +kernel
theorem dX3_asked_11 : decode cX3_asked 11 = .ok (.getfield 40, 3) := by decide +kernel
theorem dX3_asked_14 : decode cX3_asked 14 = .ok (.iload_n 1, 1) := by decide +kernel
theorem dX3_asked_15 : decode cX3_asked 15 = .ok (.aaload, 1) := by decide +kernel
theorem dX3_asked_16 : decode cX3_asked 16 = .ok (.getfield 159, 3) := by decide +kernel
theorem dX3_asked_19 : decode cX3_asked 19 = .ok (.iload_n 2, 1) := by decide +kernel
theorem dX3_asked_20 : decode cX3_asked 20 = .ok (.iaload, 1) := by decide +kernel
theorem dX3_asked_21 : decode cX3_asked 21 = .ok (.ireturn, 1) := by decide +kernel
set_option maxRecDepth 20000 in
theorem ggX3_paid_X3_requirePartner : GoodIn wsX3_paid wsX3_requirePartner := goodIn_ca (goodIn_r _ [5, 6, 7] (by decide +kernel) (by decide +kernel)) (goodIn_sub (fun _ h => List.mem_cons_of_mem _ (List.mem_append_right _ h)) (by decide +kernel))
set_option maxRecDepth 20000 in
theorem gX3_paid_X3_requirePartner : GoodIn wsX3_paid (wsV RX3 94 RX3 yX3_requirePartner wsX3_requirePartner) := goodIn_app (goodIn_of _ (by decide +kernel)) ggX3_paid_X3_requirePartner
set_option maxRecDepth 20000 in
theorem ggX3_paid_X3_paidOfAllCalls : GoodIn wsX3_paid wsX3_paidOfAllCalls := goodIn_r _ [11, 12, 13, 14, 15, 16, 17, 18, 19, 20, 21, 22, 23, 24, 25, 26, 27, 28, 29, 30, 31] (by decide +kernel) (by decide +kernel)
set_option maxRecDepth 20000 in
theorem gX3_paid_X3_paidOfAllCalls : GoodIn wsX3_paid (wsV RX3 190 RX3 yX3_paidOfAllCalls wsX3_paidOfAllCalls) := goodIn_app (goodIn_of _ (by decide +kernel)) ggX3_paid_X3_paidOfAllCalls
theorem dX3_paid_0 : decode cX3_paid 0 = .ok (.aload_n 0, 1) := by decide +kernel
theorem dX3_paid_1 : decode cX3_paid 1 = .ok (.iload_n 1, 1) := by decide +kernel
theorem dX3_paid_2 : decode cX3_paid 2 = .ok (.invokevirtual 94, 3) := by decide +kernel
theorem dX3_paid_5 : decode cX3_paid 5 = .ok (.aload_n 0, 1) := by decide +kernel
theorem dX3_paid_6 : decode cX3_paid 6 = .ok (.iload_n 1, 1) := by decide +kernel
theorem dX3_paid_7 : decode cX3_paid 7 = .ok (.invokevirtual 190, 3) := by decide +kernel
theorem dX3_paid_10 : decode cX3_paid 10 = .ok (.ireturn, 1) := by decide +kernel
set_option maxRecDepth 20000 in
theorem ggX3_owes_X3_requirePartner : GoodIn wsX3_owes wsX3_requirePartner := goodIn_ca (goodIn_r _ [6, 7, 8] (by decide +kernel) (by decide +kernel)) (goodIn_sub (fun _ h => List.mem_cons_of_mem _ (List.mem_append_right _ h)) (by decide +kernel))
set_option maxRecDepth 20000 in
theorem gX3_owes_X3_requirePartner : GoodIn wsX3_owes (wsV RX3 94 RX3 yX3_requirePartner wsX3_requirePartner) := goodIn_app (goodIn_of _ (by decide +kernel)) ggX3_owes_X3_requirePartner
theorem dX3_owes_0 : decode cX3_owes 0 = .ok (.aload_n 0, 1) := by decide +kernel
theorem dX3_owes_1 : decode cX3_owes 1 = .ok (.iload_n 1, 1) := by decide +kernel
theorem dX3_owes_2 : decode cX3_owes 2 = .ok (.invokevirtual 94, 3) := by decide +kernel
theorem dX3_owes_5 : decode cX3_owes 5 = .ok (.aload_n 0, 1) := by decide +kernel
theorem dX3_owes_6 : decode cX3_owes 6 = .ok (.getfield 47, 3) := by decide +kernel
theorem dX3_owes_9 : decode cX3_owes 9 = .ok (.iload_n 1, 1) := by decide +kernel
theorem dX3_owes_10 : decode cX3_owes 10 = .ok (.iaload, 1) := by decide +kernel
theorem dX3_owes_11 : decode cX3_owes 11 = .ok (.ireturn, 1) := by decide +kernel
set_option maxRecDepth 20000 in
theorem ggX3_balance_X3_requirePartner : GoodIn wsX3_balance wsX3_requirePartner := goodIn_ca (goodIn_r _ [10, 11, 12] (by decide +kernel) (by decide +kernel)) (goodIn_sub (fun _ h => List.mem_cons_of_mem _ (List.mem_append_right _ h)) (by decide +kernel))
set_option maxRecDepth 20000 in
theorem gX3_balance_X3_requirePartner : GoodIn wsX3_balance (wsV RX3 94 RX3 yX3_requirePartner wsX3_requirePartner) := goodIn_app (goodIn_of _ (by decide +kernel)) ggX3_balance_X3_requirePartner
set_option maxRecDepth 20000 in
theorem ggX3_balance_X3_paidOfAllCalls : GoodIn wsX3_balance wsX3_paidOfAllCalls := goodIn_r _ [16, 17, 18, 19, 20, 21, 22, 23, 24, 25, 26, 27, 28, 29, 30, 31, 32, 33, 34, 43, 44] (by decide +kernel) (by decide +kernel)
set_option maxRecDepth 20000 in
theorem gX3_balance_X3_paidOfAllCalls : GoodIn wsX3_balance (wsV RX3 190 RX3 yX3_paidOfAllCalls wsX3_paidOfAllCalls) := goodIn_app (goodIn_of _ (by decide +kernel)) ggX3_balance_X3_paidOfAllCalls
theorem dX3_balance_0 : decode cX3_balance 0 = .ok (.aload_n 0, 1) := by decide +kernel
theorem dX3_balance_1 : decode cX3_balance 1 = .ok (.iload_n 1, 1) := by decide +kernel
theorem dX3_balance_2 : decode cX3_balance 2 = .ok (.invokevirtual 94, 3) := by decide +kernel
theorem dX3_balance_5 : decode cX3_balance 5 = .ok (.aload_n 0, 1) := by decide +kernel
theorem dX3_balance_6 : decode cX3_balance 6 = .ok (.iload_n 1, 1) := by decide +kernel
theorem dX3_balance_7 : decode cX3_balance 7 = .ok (.invokevirtual 190, 3) := by decide +kernel
theorem dX3_balance_10 : decode cX3_balance 10 = .ok (.i2l, 1) := by decide +kernel
theorem dX3_balance_11 : decode cX3_balance 11 = .ok (.aload_n 0, 1) := by decide +kernel
theorem dX3_balance_12 : decode cX3_balance 12 = .ok (.getfield 47, 3) := by decide +kernel
theorem dX3_balance_15 : decode cX3_balance 15 = .ok (.iload_n 1, 1) := by decide +kernel
theorem dX3_balance_16 : decode cX3_balance 16 = .ok (.iaload, 1) := by decide +kernel
theorem dX3_balance_17 : decode cX3_balance 17 = .ok (.i2l, 1) := by decide +kernel
theorem dX3_balance_18 : decode cX3_balance 18 = .ok (.lsub, 1) := by decide +kernel
theorem dX3_balance_19 : decode cX3_balance 19 = .ok (.lstore_n 2, 1) := by decide +kernel
theorem dX3_balance_20 : decode cX3_balance 20 = .ok (.iconst 0, 1) := by decide +kernel
theorem dX3_balance_21 : decode cX3_balance 21 = .ok (.istore 4, 2) := by decide +kernel
theorem dX3_balance_23 : decode cX3_balance 23 = .ok (.iload 4, 2) := by decide +kernel
theorem dX3_balance_25 : decode cX3_balance 25 = .ok (.aload_n 0, 1) := by decide +kernel
theorem dX3_balance_26 : decode cX3_balance 26 = .ok (.getfield 26, 3) := by decide +kernel
theorem dX3_balance_29 : decode cX3_balance 29 = .ok (.if_icmp .ge 39, 3) := by decide +kernel
theorem dX3_balance_32 : decode cX3_balance 32 = .ok (.lload_n 2, 1) := by decide +kernel
theorem dX3_balance_33 : decode cX3_balance 33 = .ok (.aload_n 0, 1) := by decide +kernel
theorem dX3_balance_34 : decode cX3_balance 34 = .ok (.getfield 22, 3) := by decide +kernel
theorem dX3_balance_37 : decode cX3_balance 37 = .ok (.iload 4, 2) := by decide +kernel
theorem dX3_balance_39 : decode cX3_balance 39 = .ok (.aaload, 1) := by decide +kernel
theorem dX3_balance_40 : decode cX3_balance 40 = .ok (.getfield 150, 3) := by decide +kernel
theorem dX3_balance_43 : decode cX3_balance 43 = .ok (.iload_n 1, 1) := by decide +kernel
theorem dX3_balance_44 : decode cX3_balance 44 = .ok (.iaload, 1) := by decide +kernel
theorem dX3_balance_45 : decode cX3_balance 45 = .ok (.i2l, 1) := by decide +kernel
theorem dX3_balance_46 : decode cX3_balance 46 = .ok (.aload_n 0, 1) := by decide +kernel
theorem dX3_balance_47 : decode cX3_balance 47 = .ok (.getfield 22, 3) := by decide +kernel
theorem dX3_balance_50 : decode cX3_balance 50 = .ok (.iload 4, 2) := by decide +kernel
theorem dX3_balance_52 : decode cX3_balance 52 = .ok (.aaload, 1) := by decide +kernel
theorem dX3_balance_53 : decode cX3_balance 53 = .ok (.getfield 147, 3) := by decide +kernel
theorem dX3_balance_56 : decode cX3_balance 56 = .ok (.iload_n 1, 1) := by decide +kernel
theorem dX3_balance_57 : decode cX3_balance 57 = .ok (.iaload, 1) := by decide +kernel
theorem dX3_balance_58 : decode cX3_balance 58 = .ok (.i2l, 1) := by decide +kernel
theorem dX3_balance_59 : decode cX3_balance 59 = .ok (.lsub, 1) := by decide +kernel
theorem dX3_balance_60 : decode cX3_balance 60 = .ok (.ladd, 1) := by decide +kernel
theorem dX3_balance_61 : decode cX3_balance 61 = .ok (.lstore_n 2, 1) := by decide +kernel
theorem dX3_balance_62 : decode cX3_balance 62 = .ok (.iinc 4 1, 3) := by decide +kernel
theorem dX3_balance_65 : decode cX3_balance 65 = .ok (.goto (-42), 3) := by decide +kernel
theorem dX3_balance_68 : decode cX3_balance 68 = .ok (.lload_n 2, 1) := by decide +kernel
theorem dX3_balance_69 : decode cX3_balance 69 = .ok (.lreturn, 1) := by decide +kernel
theorem dX3_requireRange_0 : decode cX3_requireRange 0 = .ok (.iload_n 1, 1) := by decide +kernel
theorem dX3_requireRange_1 : decode cX3_requireRange 1 = .ok (.iload_n 2, 1) := by decide +kernel
theorem dX3_requireRange_2 : decode cX3_requireRange 2 = .ok (.if_icmp .lt 8, 3) := by decide +kernel
theorem dX3_requireRange_5 : decode cX3_requireRange 5 = .ok (.iload_n 1, 1) := by decide +kernel
theorem dX3_requireRange_6 : decode cX3_requireRange 6 = .ok (.iload_n 3, 1) := by decide +kernel
theorem dX3_requireRange_7 : decode cX3_requireRange 7 = .ok (.if_icmp .le 13, 3) := by decide +kernel
theorem dX3_requireRange_10 : decode cX3_requireRange 10 = .ok (.new 72, 3) := by decide +kernel
theorem dX3_requireRange_13 : decode cX3_requireRange 13 = .ok (.dup, 1) := by decide +kernel
theorem dX3_requireRange_14 : decode cX3_requireRange 14 = .ok (.ldc 194, 2) := by decide +kernel
theorem dX3_requireRange_16 : decode cX3_requireRange 16 = .ok (.invokespecial 76, 3) := by decide +kernel
theorem dX3_requireRange_19 : decode cX3_requireRange 19 = .ok (.athrow, 1) := by decide +kernel
theorem dX3_requireRange_20 : decode cX3_requireRange 20 = .ok (.return_, 1) := by decide +kernel
theorem dX3_requirePartner_0 : decode cX3_requirePartner 0 = .ok (.iload_n 1, 1) := by decide +kernel
theorem dX3_requirePartner_1 : decode cX3_requirePartner 1 = .ok (.ifCond .lt 8, 3) := by decide +kernel
theorem dX3_requirePartner_4 : decode cX3_requirePartner 4 = .ok (.iload_n 1, 1) := by decide +kernel
theorem dX3_requirePartner_5 : decode cX3_requirePartner 5 = .ok (.iconst 5, 1) := by decide +kernel
theorem dX3_requirePartner_6 : decode cX3_requirePartner 6 = .ok (.if_icmp .lt 13, 3) := by decide +kernel
theorem dX3_requirePartner_9 : decode cX3_requirePartner 9 = .ok (.new 196, 3) := by decide +kernel
theorem dX3_requirePartner_12 : decode cX3_requirePartner 12 = .ok (.dup, 1) := by decide +kernel
theorem dX3_requirePartner_13 : decode cX3_requirePartner 13 = .ok (.ldc 198, 2) := by decide +kernel
theorem dX3_requirePartner_15 : decode cX3_requirePartner 15 = .ok (.invokespecial 200, 3) := by decide +kernel
theorem dX3_requirePartner_18 : decode cX3_requirePartner 18 = .ok (.athrow, 1) := by decide +kernel
theorem dX3_requirePartner_19 : decode cX3_requirePartner 19 = .ok (.return_, 1) := by decide +kernel
theorem dX3_requireWell_0 : decode cX3_requireWell 0 = .ok (.iload_n 1, 1) := by decide +kernel
theorem dX3_requireWell_1 : decode cX3_requireWell 1 = .ok (.ifCond .lt 11, 3) := by decide +kernel
theorem dX3_requireWell_4 : decode cX3_requireWell 4 = .ok (.iload_n 1, 1) := by decide +kernel
theorem dX3_requireWell_5 : decode cX3_requireWell 5 = .ok (.aload_n 0, 1) := by decide +kernel
theorem dX3_requireWell_6 : decode cX3_requireWell 6 = .ok (.getfield 26, 3) := by decide +kernel
theorem dX3_requireWell_9 : decode cX3_requireWell 9 = .ok (.if_icmp .lt 13, 3) := by decide +kernel
theorem dX3_requireWell_12 : decode cX3_requireWell 12 = .ok (.new 196, 3) := by decide +kernel
theorem dX3_requireWell_15 : decode cX3_requireWell 15 = .ok (.dup, 1) := by decide +kernel
theorem dX3_requireWell_16 : decode cX3_requireWell 16 = .ok (.ldc 201, 2) := by decide +kernel
theorem dX3_requireWell_18 : decode cX3_requireWell 18 = .ok (.invokespecial 200, 3) := by decide +kernel
theorem dX3_requireWell_21 : decode cX3_requireWell 21 = .ok (.athrow, 1) := by decide +kernel
theorem dX3_requireWell_22 : decode cX3_requireWell 22 = .ok (.return_, 1) := by decide +kernel
theorem dX3_requireVoucher_0 : decode cX3_requireVoucher 0 = .ok (.iload_n 1, 1) := by decide +kernel
theorem dX3_requireVoucher_1 : decode cX3_requireVoucher 1 = .ok (.ifCond .lt 11, 3) := by decide +kernel
theorem dX3_requireVoucher_4 : decode cX3_requireVoucher 4 = .ok (.iload_n 1, 1) := by decide +kernel
theorem dX3_requireVoucher_5 : decode cX3_requireVoucher 5 = .ok (.aload_n 0, 1) := by decide +kernel
theorem dX3_requireVoucher_6 : decode cX3_requireVoucher 6 = .ok (.getfield 35, 3) := by decide +kernel
theorem dX3_requireVoucher_9 : decode cX3_requireVoucher 9 = .ok (.if_icmp .lt 13, 3) := by decide +kernel
theorem dX3_requireVoucher_12 : decode cX3_requireVoucher 12 = .ok (.new 196, 3) := by decide +kernel
theorem dX3_requireVoucher_15 : decode cX3_requireVoucher 15 = .ok (.dup, 1) := by decide +kernel
theorem dX3_requireVoucher_16 : decode cX3_requireVoucher 16 = .ok (.ldc 203, 2) := by decide +kernel
theorem dX3_requireVoucher_18 : decode cX3_requireVoucher 18 = .ok (.invokespecial 200, 3) := by decide +kernel
theorem dX3_requireVoucher_21 : decode cX3_requireVoucher 21 = .ok (.athrow, 1) := by decide +kernel
theorem dX3_requireVoucher_22 : decode cX3_requireVoucher 22 = .ok (.return_, 1) := by decide +kernel
theorem dX3_requireCashCall_0 : decode cX3_requireCashCall 0 = .ok (.iload_n 1, 1) := by decide +kernel
theorem dX3_requireCashCall_1 : decode cX3_requireCashCall 1 = .ok (.ifCond .lt 11, 3) := by decide +kernel
theorem dX3_requireCashCall_4 : decode cX3_requireCashCall 4 = .ok (.iload_n 1, 1) := by decide +kernel
theorem dX3_requireCashCall_5 : decode cX3_requireCashCall 5 = .ok (.aload_n 0, 1) := by decide +kernel
theorem dX3_requireCashCall_6 : decode cX3_requireCashCall 6 = .ok (.getfield 44, 3) := by decide +kernel
theorem dX3_requireCashCall_9 : decode cX3_requireCashCall 9 = .ok (.if_icmp .lt 13, 3) := by decide +kernel
theorem dX3_requireCashCall_12 : decode cX3_requireCashCall 12 = .ok (.new 196, 3) := by decide +kernel
theorem dX3_requireCashCall_15 : decode cX3_requireCashCall 15 = .ok (.dup, 1) := by decide +kernel
theorem dX3_requireCashCall_16 : decode cX3_requireCashCall 16 = .ok (.ldc 205, 2) := by decide +kernel
theorem dX3_requireCashCall_18 : decode cX3_requireCashCall 18 = .ok (.invokespecial 200, 3) := by decide +kernel
theorem dX3_requireCashCall_21 : decode cX3_requireCashCall 21 = .ok (.athrow, 1) := by decide +kernel
theorem dX3_requireCashCall_22 : decode cX3_requireCashCall 22 = .ok (.return_, 1) := by decide +kernel
theorem dX3_requireRoomForVoucher_0 : decode cX3_requireRoomForVoucher 0 = .ok (.aload_n 0, 1) := by decide +kernel
theorem dX3_requireRoomForVoucher_1 : decode cX3_requireRoomForVoucher 1 = .ok (.getfield 35, 3) := by decide +kernel
theorem dX3_requireRoomForVoucher_4 : decode cX3_requireRoomForVoucher 4 = .ok (.bipush 60, 2) := by decide +kernel
theorem dX3_requireRoomForVoucher_6 : decode cX3_requireRoomForVoucher 6 = .ok (.if_icmp .lt 13, 3) := by decide +kernel
theorem dX3_requireRoomForVoucher_9 : decode cX3_requireRoomForVoucher 9 = .ok (.new 79, 3) := by decide +kernel
theorem dX3_requireRoomForVoucher_12 : decode cX3_requireRoomForVoucher 12 = .ok (.dup, 1) := by decide +kernel
theorem dX3_requireRoomForVoucher_13 : decode cX3_requireRoomForVoucher 13 = .ok (.ldc 207, 2) := by decide +kernel
theorem dX3_requireRoomForVoucher_15 : decode cX3_requireRoomForVoucher 15 = .ok (.invokespecial 83, 3) := by decide +kernel
theorem dX3_requireRoomForVoucher_18 : decode cX3_requireRoomForVoucher 18 = .ok (.athrow, 1) := by decide +kernel
theorem dX3_requireRoomForVoucher_19 : decode cX3_requireRoomForVoucher 19 = .ok (.return_, 1) := by decide +kernel
set_option maxRecDepth 20000 in
theorem ggX3_addVoucher_X3_account : GoodIn wsX3_addVoucher wsX3_account := goodIn_r _ [10, 4, 2, 3, 11, 12, 13, 9, 14, 15, 16, 17, 18, 19, 20, 21, 22, 23, 24, 25, 26, 27, 28, 29, 30, 31, 32, 33, 34, 35, 36, 37, 38, 39, 40, 41, 42, 43, 44, 45, 46, 47, 48, 49, 50, 51, 52, 53, 54, 55, 56, 57, 58, 59, 60, 61, 62, 63, 64, 65, 66, 67, 68, 69, 70, 71, 72, 73, 74, 75, 76, 77, 78, 79, 80, 81, 82, 83, 84, 85, 86, 87, 88, 89, 90, 91, 92, 93, 94, 95, 96, 97, 98, 99, 100, 101, 102, 103, 104, 105, 106, 107, 108, 109] (by decide +kernel) (by decide +kernel)
set_option maxRecDepth 20000 in
theorem gX3_addVoucher_X3_account : GoodIn wsX3_addVoucher (wsV RX3 209 RX3 yX3_account wsX3_account) := goodIn_app (goodIn_of _ (by decide +kernel)) ggX3_addVoucher_X3_account
theorem dX3_addVoucher_0 : decode cX3_addVoucher 0 = .ok (.aload_n 0, 1) := by decide +kernel
theorem dX3_addVoucher_1 : decode cX3_addVoucher 1 = .ok (.getfield 35, 3) := by decide +kernel
theorem dX3_addVoucher_4 : decode cX3_addVoucher 4 = .ok (.istore_n 3, 1) := by decide +kernel
theorem dX3_addVoucher_5 : decode cX3_addVoucher 5 = .ok (.aload_n 0, 1) := by decide +kernel
theorem dX3_addVoucher_6 : decode cX3_addVoucher 6 = .ok (.getfield 29, 3) := by decide +kernel
theorem dX3_addVoucher_9 : decode cX3_addVoucher 9 = .ok (.iload_n 3, 1) := by decide +kernel
theorem dX3_addVoucher_10 : decode cX3_addVoucher 10 = .ok (.iload_n 1, 1) := by decide +kernel
theorem dX3_addVoucher_11 : decode cX3_addVoucher 11 = .ok (.iastore, 1) := by decide +kernel
theorem dX3_addVoucher_12 : decode cX3_addVoucher 12 = .ok (.aload_n 0, 1) := by decide +kernel
theorem dX3_addVoucher_13 : decode cX3_addVoucher 13 = .ok (.getfield 32, 3) := by decide +kernel
theorem dX3_addVoucher_16 : decode cX3_addVoucher 16 = .ok (.iload_n 3, 1) := by decide +kernel
theorem dX3_addVoucher_17 : decode cX3_addVoucher 17 = .ok (.iload_n 2, 1) := by decide +kernel
theorem dX3_addVoucher_18 : decode cX3_addVoucher 18 = .ok (.iastore, 1) := by decide +kernel
theorem dX3_addVoucher_19 : decode cX3_addVoucher 19 = .ok (.aload_n 0, 1) := by decide +kernel
theorem dX3_addVoucher_20 : decode cX3_addVoucher 20 = .ok (.dup, 1) := by decide +kernel
theorem dX3_addVoucher_21 : decode cX3_addVoucher 21 = .ok (.getfield 35, 3) := by decide +kernel
theorem dX3_addVoucher_24 : decode cX3_addVoucher 24 = .ok (.iconst 1, 1) := by decide +kernel
theorem dX3_addVoucher_25 : decode cX3_addVoucher 25 = .ok (.iadd, 1) := by decide +kernel
theorem dX3_addVoucher_26 : decode cX3_addVoucher 26 = .ok (.putfield 35, 3) := by decide +kernel
theorem dX3_addVoucher_29 : decode cX3_addVoucher 29 = .ok (.aload_n 0, 1) := by decide +kernel
theorem dX3_addVoucher_30 : decode cX3_addVoucher 30 = .ok (.getfield 22, 3) := by decide +kernel
theorem dX3_addVoucher_33 : decode cX3_addVoucher 33 = .ok (.iload_n 1, 1) := by decide +kernel
theorem dX3_addVoucher_34 : decode cX3_addVoucher 34 = .ok (.aaload, 1) := by decide +kernel
theorem dX3_addVoucher_35 : decode cX3_addVoucher 35 = .ok (.iconst 1, 1) := by decide +kernel
theorem dX3_addVoucher_36 : decode cX3_addVoucher 36 = .ok (.putfield 97, 3) := by decide +kernel
theorem dX3_addVoucher_39 : decode cX3_addVoucher 39 = .ok (.aload_n 0, 1) := by decide +kernel
theorem dX3_addVoucher_40 : decode cX3_addVoucher 40 = .ok (.iload_n 3, 1) := by decide +kernel
theorem dX3_addVoucher_41 : decode cX3_addVoucher 41 = .ok (.invokevirtual 209, 3) := by decide +kernel
theorem dX3_addVoucher_44 : decode cX3_addVoucher 44 = .ok (.iload_n 3, 1) := by decide +kernel
theorem dX3_addVoucher_45 : decode cX3_addVoucher 45 = .ok (.ireturn, 1) := by decide +kernel
set_option maxRecDepth 20000 in
theorem ggX3_accountAnew_X2_clearAccounts : GoodIn wsX3_accountAnew wsX2_clearAccounts := goodIn_r _ [8, 9, 10, 11, 12, 13, 14, 15, 16, 17, 18, 19, 20, 21, 111, 112, 113, 114, 115, 116, 117, 118] (by decide +kernel) (by decide +kernel)
set_option maxRecDepth 20000 in
theorem gX3_accountAnew_X2_clearAccounts : GoodIn wsX3_accountAnew (wsV RX3 212 RX2 yX2_clearAccounts wsX2_clearAccounts) := goodIn_app (goodIn_of _ (by decide +kernel)) ggX3_accountAnew_X2_clearAccounts
set_option maxRecDepth 20000 in
theorem ggX3_accountAnew_X3_account : GoodIn wsX3_accountAnew wsX3_account := goodIn_r _ [26, 1, 3, 27, 28, 29, 30, 25, 31, 32, 33, 34, 35, 36, 37, 38, 39, 40, 41, 42, 43, 44, 45, 46, 47, 48, 49, 50, 51, 52, 20, 17, 21, 53, 54, 55, 56, 57, 58, 59, 60, 61, 62, 63, 64, 65, 66, 67, 68, 69, 70, 71, 72, 73, 74, 75, 76, 77, 78, 79, 80, 81, 82, 7, 83, 13, 9, 84, 85, 86, 87, 88, 89, 90, 91, 92, 93, 94, 95, 10, 96, 97, 98, 99, 100, 101, 102, 103, 104, 105, 106, 107, 108, 109, 110, 111, 112, 113, 114, 115, 116, 117, 118, 119] (by decide +kernel) (by decide +kernel)
set_option maxRecDepth 20000 in
theorem gX3_accountAnew_X3_account : GoodIn wsX3_accountAnew (wsV RX3 209 RX3 yX3_account wsX3_account) := goodIn_app (goodIn_of _ (by decide +kernel)) ggX3_accountAnew_X3_account
theorem dX3_accountAnew_0 : decode cX3_accountAnew 0 = .ok (.aload_n 0, 1) := by decide +kernel
theorem dX3_accountAnew_1 : decode cX3_accountAnew 1 = .ok (.getfield 22, 3) := by decide +kernel
theorem dX3_accountAnew_4 : decode cX3_accountAnew 4 = .ok (.iload_n 1, 1) := by decide +kernel
theorem dX3_accountAnew_5 : decode cX3_accountAnew 5 = .ok (.aaload, 1) := by decide +kernel
theorem dX3_accountAnew_6 : decode cX3_accountAnew 6 = .ok (.invokevirtual 212, 3) := by decide +kernel
theorem dX3_accountAnew_9 : decode cX3_accountAnew 9 = .ok (.iconst 0, 1) := by decide +kernel
theorem dX3_accountAnew_10 : decode cX3_accountAnew 10 = .ok (.istore_n 2, 1) := by decide +kernel
theorem dX3_accountAnew_11 : decode cX3_accountAnew 11 = .ok (.iload_n 2, 1) := by decide +kernel
theorem dX3_accountAnew_12 : decode cX3_accountAnew 12 = .ok (.aload_n 0, 1) := by decide +kernel
theorem dX3_accountAnew_13 : decode cX3_accountAnew 13 = .ok (.getfield 35, 3) := by decide +kernel
theorem dX3_accountAnew_16 : decode cX3_accountAnew 16 = .ok (.if_icmp .ge 24, 3) := by decide +kernel
theorem dX3_accountAnew_19 : decode cX3_accountAnew 19 = .ok (.aload_n 0, 1) := by decide +kernel
theorem dX3_accountAnew_20 : decode cX3_accountAnew 20 = .ok (.getfield 29, 3) := by decide +kernel
theorem dX3_accountAnew_23 : decode cX3_accountAnew 23 = .ok (.iload_n 2, 1) := by decide +kernel
theorem dX3_accountAnew_24 : decode cX3_accountAnew 24 = .ok (.iaload, 1) := by decide +kernel
theorem dX3_accountAnew_25 : decode cX3_accountAnew 25 = .ok (.iload_n 1, 1) := by decide +kernel
theorem dX3_accountAnew_26 : decode cX3_accountAnew 26 = .ok (.if_icmp .ne 8, 3) := by decide +kernel
theorem dX3_accountAnew_29 : decode cX3_accountAnew 29 = .ok (.aload_n 0, 1) := by decide +kernel
theorem dX3_accountAnew_30 : decode cX3_accountAnew 30 = .ok (.iload_n 2, 1) := by decide +kernel
theorem dX3_accountAnew_31 : decode cX3_accountAnew 31 = .ok (.invokevirtual 209, 3) := by decide +kernel
theorem dX3_accountAnew_34 : decode cX3_accountAnew 34 = .ok (.iinc 2 1, 3) := by decide +kernel
theorem dX3_accountAnew_37 : decode cX3_accountAnew 37 = .ok (.goto (-26), 3) := by decide +kernel
theorem dX3_accountAnew_40 : decode cX3_accountAnew 40 = .ok (.return_, 1) := by decide +kernel
set_option maxRecDepth 20000 in
theorem ggX3_account_X3_accountCost : GoodIn wsX3_account wsX3_accountCost := goodIn_r _ [8, 9, 10, 11, 12, 13, 14, 15, 16, 17, 7, 18, 19, 20, 21, 22, 23, 24, 25, 26, 27, 28, 29, 30, 31, 32, 33, 34, 35, 36, 37, 38, 39, 40, 41, 42, 43, 44, 45, 46, 47, 48, 49, 50, 51, 52, 53, 54, 95, 96, 97, 98, 99, 100, 101, 102, 80, 81, 82, 83, 84, 85, 86, 87, 88, 89, 90, 91, 92, 93, 94, 103] (by decide +kernel) (by decide +kernel)
set_option maxRecDepth 20000 in
theorem gX3_account_X3_accountCost : GoodIn wsX3_account (wsV RX3 215 RX3 yX3_accountCost wsX3_accountCost) := goodIn_app (goodIn_of _ (by decide +kernel)) ggX3_account_X3_accountCost
set_option maxRecDepth 20000 in
theorem ggX3_account_X3_accountIncome : GoodIn wsX3_account wsX3_accountIncome := goodIn_r _ [58, 19, 20, 13, 12, 59, 22, 23, 24, 25, 26, 27, 28, 29, 30, 31, 32, 33, 34, 35, 36, 37, 38, 39, 7, 40, 21, 41, 42, 43, 44, 11, 60, 61, 62, 63, 64, 65, 66, 67, 68, 69, 70, 71, 72, 73, 74, 10, 80, 81, 82, 83, 84, 85, 86, 87, 88, 89, 90, 91, 92, 93, 94, 95, 96, 97, 98, 99, 100, 101, 102, 103] (by decide +kernel) (by decide +kernel)
set_option maxRecDepth 20000 in
theorem gX3_account_X3_accountIncome : GoodIn wsX3_account (wsV RX3 218 RX3 yX3_accountIncome wsX3_accountIncome) := goodIn_app (goodIn_of _ (by decide +kernel)) ggX3_account_X3_accountIncome
set_option maxRecDepth 20000 in
theorem ggX3_account_X2_takeBack : GoodIn wsX3_account wsX2_takeBack := goodIn_r _ [78, 65, 66, 79, 95, 96, 97, 98, 99, 100, 101, 102] (by decide +kernel) (by decide +kernel)
set_option maxRecDepth 20000 in
theorem gX3_account_X2_takeBack : GoodIn wsX3_account (wsV RX3 221 RX2 yX2_takeBack wsX2_takeBack) := goodIn_app (goodIn_of _ (by decide +kernel)) ggX3_account_X2_takeBack
theorem dX3_account_0 : decode cX3_account 0 = .ok (.aload_n 0, 1) := by decide +kernel
theorem dX3_account_1 : decode cX3_account 1 = .ok (.getfield 22, 3) := by decide +kernel
theorem dX3_account_4 : decode cX3_account 4 = .ok (.aload_n 0, 1) := by decide +kernel
theorem dX3_account_5 : decode cX3_account 5 = .ok (.getfield 29, 3) := by decide +kernel
theorem dX3_account_8 : decode cX3_account 8 = .ok (.iload_n 1, 1) := by decide +kernel
theorem dX3_account_9 : decode cX3_account 9 = .ok (.iaload, 1) := by decide +kernel
theorem dX3_account_10 : decode cX3_account 10 = .ok (.aaload, 1) := by decide +kernel
theorem dX3_account_11 : decode cX3_account 11 = .ok (.astore_n 2, 1) := by decide +kernel
theorem dX3_account_12 : decode cX3_account 12 = .ok (.aload_n 0, 1) := by decide +kernel
theorem dX3_account_13 : decode cX3_account 13 = .ok (.getfield 32, 3) := by decide +kernel
theorem dX3_account_16 : decode cX3_account 16 = .ok (.iload_n 1, 1) := by decide +kernel
theorem dX3_account_17 : decode cX3_account 17 = .ok (.iaload, 1) := by decide +kernel
theorem dX3_account_18 : decode cX3_account 18 = .ok (.istore_n 3, 1) := by decide +kernel
theorem dX3_account_19 : decode cX3_account 19 = .ok (.iload_n 3, 1) := by decide +kernel
theorem dX3_account_20 : decode cX3_account 20 = .ok (.ifCond .le 12, 3) := by decide +kernel
theorem dX3_account_23 : decode cX3_account 23 = .ok (.aload_n 0, 1) := by decide +kernel
theorem dX3_account_24 : decode cX3_account 24 = .ok (.aload_n 2, 1) := by decide +kernel
theorem dX3_account_25 : decode cX3_account 25 = .ok (.iload_n 3, 1) := by decide +kernel
theorem dX3_account_26 : decode cX3_account 26 = .ok (.invokevirtual 215, 3) := by decide +kernel
theorem dX3_account_29 : decode cX3_account 29 = .ok (.goto 15, 3) := by decide +kernel
theorem dX3_account_32 : decode cX3_account 32 = .ok (.aload_n 0, 1) := by decide +kernel
theorem dX3_account_33 : decode cX3_account 33 = .ok (.aload_n 2, 1) := by decide +kernel
theorem dX3_account_34 : decode cX3_account 34 = .ok (.iload_n 3, 1) := by decide +kernel
theorem dX3_account_35 : decode cX3_account 35 = .ok (.ineg, 1) := by decide +kernel
theorem dX3_account_36 : decode cX3_account 36 = .ok (.invokevirtual 218, 3) := by decide +kernel
theorem dX3_account_39 : decode cX3_account 39 = .ok (.aload_n 2, 1) := by decide +kernel
theorem dX3_account_40 : decode cX3_account 40 = .ok (.iload_n 1, 1) := by decide +kernel
theorem dX3_account_41 : decode cX3_account 41 = .ok (.invokevirtual 221, 3) := by decide +kernel
theorem dX3_account_44 : decode cX3_account 44 = .ok (.return_, 1) := by decide +kernel
set_option maxRecDepth 20000 in
theorem ggX3_accountCost_X3_divideCost : GoodIn wsX3_accountCost wsX3_divideCost := goodIn_r _ [11, 12, 13, 5, 14, 2, 3, 15, 16, 17, 18, 19, 20, 21, 22, 23, 24, 25, 26, 27, 28, 29, 30, 31, 32, 10, 33, 34, 35, 36, 37, 38, 39, 40, 41, 56, 57, 58, 59, 60, 61, 62, 63, 64, 65, 66, 67, 68, 69, 70, 48, 49, 50, 51, 52, 53, 54, 55, 71] (by decide +kernel) (by decide +kernel)
set_option maxRecDepth 20000 in
theorem gX3_accountCost_X3_divideCost : GoodIn wsX3_accountCost (wsV RX3 153 RX3 yX3_divideCost wsX3_divideCost) := goodIn_app (goodIn_of _ (by decide +kernel)) ggX3_accountCost_X3_divideCost
set_option maxRecDepth 20000 in
theorem ggX3_accountCost_X3_penaltyOn : GoodIn wsX3_accountCost wsX3_penaltyOn := goodIn_r _ [45, 46, 47] (by decide +kernel) (by decide +kernel)
set_option maxRecDepth 20000 in
theorem gX3_accountCost_X3_penaltyOn : GoodIn wsX3_accountCost (wsV RX3 224 RX3 yX3_penaltyOn wsX3_penaltyOn) := goodIn_app (goodIn_of _ (by decide +kernel)) ggX3_accountCost_X3_penaltyOn
theorem dX3_accountCost_0 : decode cX3_accountCost 0 = .ok (.aload_n 0, 1) := by decide +kernel
theorem dX3_accountCost_1 : decode cX3_accountCost 1 = .ok (.aload_n 1, 1) := by decide +kernel
theorem dX3_accountCost_2 : decode cX3_accountCost 2 = .ok (.iload_n 2, 1) := by decide +kernel
theorem dX3_accountCost_3 : decode cX3_accountCost 3 = .ok (.invokevirtual 153, 3) := by decide +kernel
theorem dX3_accountCost_6 : decode cX3_accountCost 6 = .ok (.iconst 0, 1) := by decide +kernel
theorem dX3_accountCost_7 : decode cX3_accountCost 7 = .ok (.istore_n 3, 1) := by decide +kernel
theorem dX3_accountCost_8 : decode cX3_accountCost 8 = .ok (.iload_n 3, 1) := by decide +kernel
theorem dX3_accountCost_9 : decode cX3_accountCost 9 = .ok (.iconst 5, 1) := by decide +kernel
theorem dX3_accountCost_10 : decode cX3_accountCost 10 = .ok (.if_icmp .ge 56, 3) := by decide +kernel
theorem dX3_accountCost_13 : decode cX3_accountCost 13 = .ok (.aload_n 1, 1) := by decide +kernel
theorem dX3_accountCost_14 : decode cX3_accountCost 14 = .ok (.getfield 147, 3) := by decide +kernel
theorem dX3_accountCost_17 : decode cX3_accountCost 17 = .ok (.iload_n 3, 1) := by decide +kernel
theorem dX3_accountCost_18 : decode cX3_accountCost 18 = .ok (.dup2, 1) := by decide +kernel
theorem dX3_accountCost_19 : decode cX3_accountCost 19 = .ok (.iaload, 1) := by decide +kernel
theorem dX3_accountCost_20 : decode cX3_accountCost 20 = .ok (.aload_n 0, 1) := by decide +kernel
theorem dX3_accountCost_21 : decode cX3_accountCost 21 = .ok (.getfield 63, 3) := by decide +kernel
theorem dX3_accountCost_24 : decode cX3_accountCost 24 = .ok (.iload_n 3, 1) := by decide +kernel
theorem dX3_accountCost_25 : decode cX3_accountCost 25 = .ok (.iaload, 1) := by decide +kernel
theorem dX3_accountCost_26 : decode cX3_accountCost 26 = .ok (.iadd, 1) := by decide +kernel
theorem dX3_accountCost_27 : decode cX3_accountCost 27 = .ok (.iastore, 1) := by decide +kernel
theorem dX3_accountCost_28 : decode cX3_accountCost 28 = .ok (.aload_n 1, 1) := by decide +kernel
theorem dX3_accountCost_29 : decode cX3_accountCost 29 = .ok (.getfield 115, 3) := by decide +kernel
theorem dX3_accountCost_32 : decode cX3_accountCost 32 = .ok (.iload_n 3, 1) := by decide +kernel
theorem dX3_accountCost_33 : decode cX3_accountCost 33 = .ok (.baload, 1) := by decide +kernel
theorem dX3_accountCost_34 : decode cX3_accountCost 34 = .ok (.ifCond .eq 26, 3) := by decide +kernel
theorem dX3_accountCost_37 : decode cX3_accountCost 37 = .ok (.aload_n 1, 1) := by decide +kernel
theorem dX3_accountCost_38 : decode cX3_accountCost 38 = .ok (.getfield 140, 3) := by decide +kernel
theorem dX3_accountCost_41 : decode cX3_accountCost 41 = .ok (.iload_n 3, 1) := by decide +kernel
theorem dX3_accountCost_42 : decode cX3_accountCost 42 = .ok (.dup2, 1) := by decide +kernel
theorem dX3_accountCost_43 : decode cX3_accountCost 43 = .ok (.laload, 1) := by decide +kernel
theorem dX3_accountCost_44 : decode cX3_accountCost 44 = .ok (.aload_n 0, 1) := by decide +kernel
theorem dX3_accountCost_45 : decode cX3_accountCost 45 = .ok (.aload_n 0, 1) := by decide +kernel
theorem dX3_accountCost_46 : decode cX3_accountCost 46 = .ok (.getfield 57, 3) := by decide +kernel
theorem dX3_accountCost_49 : decode cX3_accountCost 49 = .ok (.iload_n 3, 1) := by decide +kernel
theorem dX3_accountCost_50 : decode cX3_accountCost 50 = .ok (.iaload, 1) := by decide +kernel
theorem dX3_accountCost_51 : decode cX3_accountCost 51 = .ok (.aload_n 1, 1) := by decide +kernel
theorem dX3_accountCost_52 : decode cX3_accountCost 52 = .ok (.getfield 87, 3) := by decide +kernel
theorem dX3_accountCost_55 : decode cX3_accountCost 55 = .ok (.invokevirtual 224, 3) := by decide +kernel
theorem dX3_accountCost_58 : decode cX3_accountCost 58 = .ok (.ladd, 1) := by decide +kernel
theorem dX3_accountCost_59 : decode cX3_accountCost 59 = .ok (.lastore, 1) := by decide +kernel
theorem dX3_accountCost_60 : decode cX3_accountCost 60 = .ok (.iinc 3 1, 3) := by decide +kernel
theorem dX3_accountCost_63 : decode cX3_accountCost 63 = .ok (.goto (-55), 3) := by decide +kernel
theorem dX3_accountCost_66 : decode cX3_accountCost 66 = .ok (.return_, 1) := by decide +kernel
theorem dX3_penaltyOn_0 : decode cX3_penaltyOn 0 = .ok (.iload_n 1, 1) := by decide +kernel
theorem dX3_penaltyOn_1 : decode cX3_penaltyOn 1 = .ok (.i2l, 1) := by decide +kernel
theorem dX3_penaltyOn_2 : decode cX3_penaltyOn 2 = .ok (.iload_n 2, 1) := by decide +kernel
theorem dX3_penaltyOn_3 : decode cX3_penaltyOn 3 = .ok (.i2l, 1) := by decide +kernel
theorem dX3_penaltyOn_4 : decode cX3_penaltyOn 4 = .ok (.lmul, 1) := by decide +kernel
theorem dX3_penaltyOn_5 : decode cX3_penaltyOn 5 = .ok (.ldc2_w 228, 3) := by decide +kernel
theorem dX3_penaltyOn_8 : decode cX3_penaltyOn 8 = .ok (.ladd, 1) := by decide +kernel
theorem dX3_penaltyOn_9 : decode cX3_penaltyOn 9 = .ok (.ldc2_w 230, 3) := by decide +kernel
theorem dX3_penaltyOn_12 : decode cX3_penaltyOn 12 = .ok (.ldiv, 1) := by decide +kernel
theorem dX3_penaltyOn_13 : decode cX3_penaltyOn 13 = .ok (.lreturn, 1) := by decide +kernel
set_option maxRecDepth 20000 in
theorem ggX3_divideCost_X1_divide : GoodIn wsX3_divideCost wsX1_divide := goodIn_r _ [11, 12, 13, 14, 15, 16, 17, 18, 19, 20, 10, 21, 58] (by decide +kernel) (by decide +kernel)
set_option maxRecDepth 20000 in
theorem gX3_divideCost_X1_divide : GoodIn wsX3_divideCost (wsV RX3 162 RX1 yX1_divide wsX1_divide) := goodIn_app (goodIn_of _ (by decide +kernel)) ggX3_divideCost_X1_divide
set_option maxRecDepth 20000 in
theorem ggX3_divideCost_X3_weighThoseIn : GoodIn wsX3_divideCost wsX3_weighThoseIn := goodIn_r _ [26, 4, 27, 28, 29, 25, 30, 6, 2, 35, 36, 37, 38, 39, 40, 41, 42, 43, 44, 45, 46, 47, 48, 49, 50, 51, 52, 53, 54, 55, 56, 57] (by decide +kernel) (by decide +kernel)
set_option maxRecDepth 20000 in
theorem gX3_divideCost_X3_weighThoseIn : GoodIn wsX3_divideCost (wsV RX3 232 RX3 yX3_weighThoseIn wsX3_weighThoseIn) := goodIn_app (goodIn_of _ (by decide +kernel)) ggX3_divideCost_X3_weighThoseIn
set_option maxRecDepth 20000 in
theorem ggX3_divideCost_X3_ownPartsOfThoseOut : GoodIn wsX3_divideCost wsX3_ownPartsOfThoseOut := goodIn_r _ [34, 6, 3, 50, 51, 52, 53, 54, 55, 56, 57, 35, 36, 37, 38, 39, 40, 41, 42, 43, 44, 45, 46, 47, 48, 49] (by decide +kernel) (by decide +kernel)
set_option maxRecDepth 20000 in
theorem gX3_divideCost_X3_ownPartsOfThoseOut : GoodIn wsX3_divideCost (wsV RX3 236 RX3 yX3_ownPartsOfThoseOut wsX3_ownPartsOfThoseOut) := goodIn_app (goodIn_of _ (by decide +kernel)) ggX3_divideCost_X3_ownPartsOfThoseOut
theorem dX3_divideCost_0 : decode cX3_divideCost 0 = .ok (.aload_n 0, 1) := by decide +kernel
theorem dX3_divideCost_1 : decode cX3_divideCost 1 = .ok (.getfield 53, 3) := by decide +kernel
theorem dX3_divideCost_4 : decode cX3_divideCost 4 = .ok (.iload_n 2, 1) := by decide +kernel
theorem dX3_divideCost_5 : decode cX3_divideCost 5 = .ok (.aload_n 0, 1) := by decide +kernel
theorem dX3_divideCost_6 : decode cX3_divideCost 6 = .ok (.getfield 9, 3) := by decide +kernel
theorem dX3_divideCost_9 : decode cX3_divideCost 9 = .ok (.aload_n 0, 1) := by decide +kernel
theorem dX3_divideCost_10 : decode cX3_divideCost 10 = .ok (.getfield 57, 3) := by decide +kernel
theorem dX3_divideCost_13 : decode cX3_divideCost 13 = .ok (.invokevirtual 162, 3) := by decide +kernel
theorem dX3_divideCost_16 : decode cX3_divideCost 16 = .ok (.aload_n 0, 1) := by decide +kernel
theorem dX3_divideCost_17 : decode cX3_divideCost 17 = .ok (.aload_n 1, 1) := by decide +kernel
theorem dX3_divideCost_18 : decode cX3_divideCost 18 = .ok (.invokevirtual 232, 3) := by decide +kernel
theorem dX3_divideCost_21 : decode cX3_divideCost 21 = .ok (.aload_n 0, 1) := by decide +kernel
theorem dX3_divideCost_22 : decode cX3_divideCost 22 = .ok (.getfield 53, 3) := by decide +kernel
theorem dX3_divideCost_25 : decode cX3_divideCost 25 = .ok (.aload_n 0, 1) := by decide +kernel
theorem dX3_divideCost_26 : decode cX3_divideCost 26 = .ok (.aload_n 1, 1) := by decide +kernel
theorem dX3_divideCost_27 : decode cX3_divideCost 27 = .ok (.invokevirtual 236, 3) := by decide +kernel
theorem dX3_divideCost_30 : decode cX3_divideCost 30 = .ok (.aload_n 0, 1) := by decide +kernel
theorem dX3_divideCost_31 : decode cX3_divideCost 31 = .ok (.getfield 60, 3) := by decide +kernel
theorem dX3_divideCost_34 : decode cX3_divideCost 34 = .ok (.aload_n 0, 1) := by decide +kernel
theorem dX3_divideCost_35 : decode cX3_divideCost 35 = .ok (.getfield 63, 3) := by decide +kernel
theorem dX3_divideCost_38 : decode cX3_divideCost 38 = .ok (.invokevirtual 162, 3) := by decide +kernel
theorem dX3_divideCost_41 : decode cX3_divideCost 41 = .ok (.iconst 0, 1) := by decide +kernel
theorem dX3_divideCost_42 : decode cX3_divideCost 42 = .ok (.istore_n 3, 1) := by decide +kernel
theorem dX3_divideCost_43 : decode cX3_divideCost 43 = .ok (.iload_n 3, 1) := by decide +kernel
theorem dX3_divideCost_44 : decode cX3_divideCost 44 = .ok (.iconst 5, 1) := by decide +kernel
theorem dX3_divideCost_45 : decode cX3_divideCost 45 = .ok (.if_icmp .ge 33, 3) := by decide +kernel
theorem dX3_divideCost_48 : decode cX3_divideCost 48 = .ok (.aload_n 1, 1) := by decide +kernel
theorem dX3_divideCost_49 : decode cX3_divideCost 49 = .ok (.getfield 115, 3) := by decide +kernel
theorem dX3_divideCost_52 : decode cX3_divideCost 52 = .ok (.iload_n 3, 1) := by decide +kernel
theorem dX3_divideCost_53 : decode cX3_divideCost 53 = .ok (.baload, 1) := by decide +kernel
theorem dX3_divideCost_54 : decode cX3_divideCost 54 = .ok (.ifCond .ne 18, 3) := by decide +kernel
theorem dX3_divideCost_57 : decode cX3_divideCost 57 = .ok (.aload_n 0, 1) := by decide +kernel
theorem dX3_divideCost_58 : decode cX3_divideCost 58 = .ok (.getfield 63, 3) := by decide +kernel
theorem dX3_divideCost_61 : decode cX3_divideCost 61 = .ok (.iload_n 3, 1) := by decide +kernel
theorem dX3_divideCost_62 : decode cX3_divideCost 62 = .ok (.dup2, 1) := by decide +kernel
theorem dX3_divideCost_63 : decode cX3_divideCost 63 = .ok (.iaload, 1) := by decide +kernel
theorem dX3_divideCost_64 : decode cX3_divideCost 64 = .ok (.aload_n 0, 1) := by decide +kernel
theorem dX3_divideCost_65 : decode cX3_divideCost 65 = .ok (.getfield 57, 3) := by decide +kernel
theorem dX3_divideCost_68 : decode cX3_divideCost 68 = .ok (.iload_n 3, 1) := by decide +kernel
theorem dX3_divideCost_69 : decode cX3_divideCost 69 = .ok (.iaload, 1) := by decide +kernel
theorem dX3_divideCost_70 : decode cX3_divideCost 70 = .ok (.iadd, 1) := by decide +kernel
theorem dX3_divideCost_71 : decode cX3_divideCost 71 = .ok (.iastore, 1) := by decide +kernel
theorem dX3_divideCost_72 : decode cX3_divideCost 72 = .ok (.iinc 3 1, 3) := by decide +kernel
theorem dX3_divideCost_75 : decode cX3_divideCost 75 = .ok (.goto (-32), 3) := by decide +kernel
theorem dX3_divideCost_78 : decode cX3_divideCost 78 = .ok (.return_, 1) := by decide +kernel
set_option maxRecDepth 20000 in
theorem ggX3_accountIncome_X1_divide : GoodIn wsX3_accountIncome wsX1_divide := goodIn_r _ [10, 11, 12, 13, 14, 15, 16, 17, 18, 19, 9, 20, 71] (by decide +kernel) (by decide +kernel)
set_option maxRecDepth 20000 in
theorem gX3_accountIncome_X1_divide : GoodIn wsX3_accountIncome (wsV RX3 162 RX1 yX1_divide wsX1_divide) := goodIn_app (goodIn_of _ (by decide +kernel)) ggX3_accountIncome_X1_divide
set_option maxRecDepth 20000 in
theorem ggX3_accountIncome_X3_weighThoseIn : GoodIn wsX3_accountIncome wsX3_weighThoseIn := goodIn_r _ [25, 26, 27, 28, 29, 24, 30, 31, 2, 48, 49, 50, 51, 52, 53, 54, 55, 56, 57, 58, 59, 60, 61, 62, 63, 64, 65, 66, 67, 68, 69, 70] (by decide +kernel) (by decide +kernel)
set_option maxRecDepth 20000 in
theorem gX3_accountIncome_X3_weighThoseIn : GoodIn wsX3_accountIncome (wsV RX3 232 RX3 yX3_weighThoseIn wsX3_weighThoseIn) := goodIn_app (goodIn_of _ (by decide +kernel)) ggX3_accountIncome_X3_weighThoseIn
set_option maxRecDepth 20000 in
theorem ggX3_accountIncome_X2_takenOf : GoodIn wsX3_accountIncome wsX2_takenOf := goodIn_r _ [36, 37, 38, 39, 40, 41, 42, 63, 64, 65, 66, 67, 68, 69, 70] (by decide +kernel) (by decide +kernel)
set_option maxRecDepth 20000 in
theorem gX3_accountIncome_X2_takenOf : GoodIn wsX3_accountIncome (wsV RX3 240 RX2 yX2_takenOf wsX2_takenOf) := goodIn_app (goodIn_of _ (by decide +kernel)) ggX3_accountIncome_X2_takenOf
set_option maxRecDepth 20000 in
theorem ggX3_accountIncome_X3_creditTaken : GoodIn wsX3_accountIncome wsX3_creditTaken := goodIn_r _ [46, 1, 26, 47, 5, 6, 7, 8, 9, 10, 11, 12, 13, 14, 15, 16, 17, 18, 19, 20, 48, 49, 50, 51, 52, 53, 54, 55, 56, 57, 58, 59, 60, 61, 62, 63, 64, 65, 66, 67, 68, 69, 70, 71] (by decide +kernel) (by decide +kernel)
set_option maxRecDepth 20000 in
theorem gX3_accountIncome_X3_creditTaken : GoodIn wsX3_accountIncome (wsV RX3 243 RX3 yX3_creditTaken wsX3_creditTaken) := goodIn_app (goodIn_of _ (by decide +kernel)) ggX3_accountIncome_X3_creditTaken
theorem dX3_accountIncome_0 : decode cX3_accountIncome 0 = .ok (.aload_n 0, 1) := by decide +kernel
theorem dX3_accountIncome_1 : decode cX3_accountIncome 1 = .ok (.getfield 53, 3) := by decide +kernel
theorem dX3_accountIncome_4 : decode cX3_accountIncome 4 = .ok (.iload_n 2, 1) := by decide +kernel
theorem dX3_accountIncome_5 : decode cX3_accountIncome 5 = .ok (.aload_n 0, 1) := by decide +kernel
theorem dX3_accountIncome_6 : decode cX3_accountIncome 6 = .ok (.getfield 9, 3) := by decide +kernel
theorem dX3_accountIncome_9 : decode cX3_accountIncome 9 = .ok (.aload_n 0, 1) := by decide +kernel
theorem dX3_accountIncome_10 : decode cX3_accountIncome 10 = .ok (.getfield 57, 3) := by decide +kernel
theorem dX3_accountIncome_13 : decode cX3_accountIncome 13 = .ok (.invokevirtual 162, 3) := by decide +kernel
theorem dX3_accountIncome_16 : decode cX3_accountIncome 16 = .ok (.aload_n 0, 1) := by decide +kernel
theorem dX3_accountIncome_17 : decode cX3_accountIncome 17 = .ok (.aload_n 1, 1) := by decide +kernel
theorem dX3_accountIncome_18 : decode cX3_accountIncome 18 = .ok (.invokevirtual 232, 3) := by decide +kernel
theorem dX3_accountIncome_21 : decode cX3_accountIncome 21 = .ok (.iconst 0, 1) := by decide +kernel
theorem dX3_accountIncome_22 : decode cX3_accountIncome 22 = .ok (.istore_n 3, 1) := by decide +kernel
theorem dX3_accountIncome_23 : decode cX3_accountIncome 23 = .ok (.iload_n 3, 1) := by decide +kernel
theorem dX3_accountIncome_24 : decode cX3_accountIncome 24 = .ok (.iconst 5, 1) := by decide +kernel
theorem dX3_accountIncome_25 : decode cX3_accountIncome 25 = .ok (.if_icmp .ge 59, 3) := by decide +kernel
theorem dX3_accountIncome_28 : decode cX3_accountIncome 28 = .ok (.aload_n 1, 1) := by decide +kernel
theorem dX3_accountIncome_29 : decode cX3_accountIncome 29 = .ok (.iload_n 3, 1) := by decide +kernel
theorem dX3_accountIncome_30 : decode cX3_accountIncome 30 = .ok (.aload_n 0, 1) := by decide +kernel
theorem dX3_accountIncome_31 : decode cX3_accountIncome 31 = .ok (.getfield 57, 3) := by decide +kernel
theorem dX3_accountIncome_34 : decode cX3_accountIncome 34 = .ok (.iload_n 3, 1) := by decide +kernel
theorem dX3_accountIncome_35 : decode cX3_accountIncome 35 = .ok (.iaload, 1) := by decide +kernel
theorem dX3_accountIncome_36 : decode cX3_accountIncome 36 = .ok (.invokevirtual 240, 3) := by decide +kernel
theorem dX3_accountIncome_39 : decode cX3_accountIncome 39 = .ok (.istore 4, 2) := by decide +kernel
theorem dX3_accountIncome_41 : decode cX3_accountIncome 41 = .ok (.aload_n 1, 1) := by decide +kernel
theorem dX3_accountIncome_42 : decode cX3_accountIncome 42 = .ok (.getfield 140, 3) := by decide +kernel
theorem dX3_accountIncome_45 : decode cX3_accountIncome 45 = .ok (.iload_n 3, 1) := by decide +kernel
theorem dX3_accountIncome_46 : decode cX3_accountIncome 46 = .ok (.dup2, 1) := by decide +kernel
theorem dX3_accountIncome_47 : decode cX3_accountIncome 47 = .ok (.laload, 1) := by decide +kernel
theorem dX3_accountIncome_48 : decode cX3_accountIncome 48 = .ok (.iload 4, 2) := by decide +kernel
theorem dX3_accountIncome_50 : decode cX3_accountIncome 50 = .ok (.i2l, 1) := by decide +kernel
theorem dX3_accountIncome_51 : decode cX3_accountIncome 51 = .ok (.lsub, 1) := by decide +kernel
theorem dX3_accountIncome_52 : decode cX3_accountIncome 52 = .ok (.lastore, 1) := by decide +kernel
theorem dX3_accountIncome_53 : decode cX3_accountIncome 53 = .ok (.aload_n 1, 1) := by decide +kernel
theorem dX3_accountIncome_54 : decode cX3_accountIncome 54 = .ok (.getfield 150, 3) := by decide +kernel
theorem dX3_accountIncome_57 : decode cX3_accountIncome 57 = .ok (.iload_n 3, 1) := by decide +kernel
theorem dX3_accountIncome_58 : decode cX3_accountIncome 58 = .ok (.dup2, 1) := by decide +kernel
theorem dX3_accountIncome_59 : decode cX3_accountIncome 59 = .ok (.iaload, 1) := by decide +kernel
theorem dX3_accountIncome_60 : decode cX3_accountIncome 60 = .ok (.aload_n 0, 1) := by decide +kernel
theorem dX3_accountIncome_61 : decode cX3_accountIncome 61 = .ok (.getfield 57, 3) := by decide +kernel
theorem dX3_accountIncome_64 : decode cX3_accountIncome 64 = .ok (.iload_n 3, 1) := by decide +kernel
theorem dX3_accountIncome_65 : decode cX3_accountIncome 65 = .ok (.iaload, 1) := by decide +kernel
theorem dX3_accountIncome_66 : decode cX3_accountIncome 66 = .ok (.iload 4, 2) := by decide +kernel
theorem dX3_accountIncome_68 : decode cX3_accountIncome 68 = .ok (.isub, 1) := by decide +kernel
theorem dX3_accountIncome_69 : decode cX3_accountIncome 69 = .ok (.iadd, 1) := by decide +kernel
theorem dX3_accountIncome_70 : decode cX3_accountIncome 70 = .ok (.iastore, 1) := by decide +kernel
theorem dX3_accountIncome_71 : decode cX3_accountIncome 71 = .ok (.aload_n 0, 1) := by decide +kernel
theorem dX3_accountIncome_72 : decode cX3_accountIncome 72 = .ok (.aload_n 1, 1) := by decide +kernel
theorem dX3_accountIncome_73 : decode cX3_accountIncome 73 = .ok (.iload 4, 2) := by decide +kernel
theorem dX3_accountIncome_75 : decode cX3_accountIncome 75 = .ok (.invokevirtual 243, 3) := by decide +kernel
theorem dX3_accountIncome_78 : decode cX3_accountIncome 78 = .ok (.iinc 3 1, 3) := by decide +kernel
theorem dX3_accountIncome_81 : decode cX3_accountIncome 81 = .ok (.goto (-58), 3) := by decide +kernel
theorem dX3_accountIncome_84 : decode cX3_accountIncome 84 = .ok (.return_, 1) := by decide +kernel
set_option maxRecDepth 20000 in
theorem ggX3_creditTaken_X1_divide : GoodIn wsX3_creditTaken wsX1_divide := goodIn_r _ [9, 10, 11, 12, 13, 14, 15, 16, 17, 18, 8, 19, 43] (by decide +kernel) (by decide +kernel)
set_option maxRecDepth 20000 in
theorem gX3_creditTaken_X1_divide : GoodIn wsX3_creditTaken (wsV RX3 162 RX1 yX1_divide wsX1_divide) := goodIn_app (goodIn_of _ (by decide +kernel)) ggX3_creditTaken_X1_divide
theorem dX3_creditTaken_0 : decode cX3_creditTaken 0 = .ok (.iload_n 2, 1) := by decide +kernel
theorem dX3_creditTaken_1 : decode cX3_creditTaken 1 = .ok (.ifCond .ne 4, 3) := by decide +kernel
theorem dX3_creditTaken_4 : decode cX3_creditTaken 4 = .ok (.return_, 1) := by decide +kernel
theorem dX3_creditTaken_5 : decode cX3_creditTaken 5 = .ok (.aload_n 0, 1) := by decide +kernel
theorem dX3_creditTaken_6 : decode cX3_creditTaken 6 = .ok (.getfield 53, 3) := by decide +kernel
theorem dX3_creditTaken_9 : decode cX3_creditTaken 9 = .ok (.iload_n 2, 1) := by decide +kernel
theorem dX3_creditTaken_10 : decode cX3_creditTaken 10 = .ok (.aload_n 0, 1) := by decide +kernel
theorem dX3_creditTaken_11 : decode cX3_creditTaken 11 = .ok (.getfield 60, 3) := by decide +kernel
theorem dX3_creditTaken_14 : decode cX3_creditTaken 14 = .ok (.aload_n 0, 1) := by decide +kernel
theorem dX3_creditTaken_15 : decode cX3_creditTaken 15 = .ok (.getfield 63, 3) := by decide +kernel
theorem dX3_creditTaken_18 : decode cX3_creditTaken 18 = .ok (.invokevirtual 162, 3) := by decide +kernel
theorem dX3_creditTaken_21 : decode cX3_creditTaken 21 = .ok (.iconst 0, 1) := by decide +kernel
theorem dX3_creditTaken_22 : decode cX3_creditTaken 22 = .ok (.istore_n 3, 1) := by decide +kernel
theorem dX3_creditTaken_23 : decode cX3_creditTaken 23 = .ok (.iload_n 3, 1) := by decide +kernel
theorem dX3_creditTaken_24 : decode cX3_creditTaken 24 = .ok (.iconst 5, 1) := by decide +kernel
theorem dX3_creditTaken_25 : decode cX3_creditTaken 25 = .ok (.if_icmp .ge 24, 3) := by decide +kernel
theorem dX3_creditTaken_28 : decode cX3_creditTaken 28 = .ok (.aload_n 1, 1) := by decide +kernel
theorem dX3_creditTaken_29 : decode cX3_creditTaken 29 = .ok (.getfield 150, 3) := by decide +kernel
theorem dX3_creditTaken_32 : decode cX3_creditTaken 32 = .ok (.iload_n 3, 1) := by decide +kernel
theorem dX3_creditTaken_33 : decode cX3_creditTaken 33 = .ok (.dup2, 1) := by decide +kernel
theorem dX3_creditTaken_34 : decode cX3_creditTaken 34 = .ok (.iaload, 1) := by decide +kernel
theorem dX3_creditTaken_35 : decode cX3_creditTaken 35 = .ok (.aload_n 0, 1) := by decide +kernel
theorem dX3_creditTaken_36 : decode cX3_creditTaken 36 = .ok (.getfield 63, 3) := by decide +kernel
theorem dX3_creditTaken_39 : decode cX3_creditTaken 39 = .ok (.iload_n 3, 1) := by decide +kernel
theorem dX3_creditTaken_40 : decode cX3_creditTaken 40 = .ok (.iaload, 1) := by decide +kernel
theorem dX3_creditTaken_41 : decode cX3_creditTaken 41 = .ok (.iadd, 1) := by decide +kernel
theorem dX3_creditTaken_42 : decode cX3_creditTaken 42 = .ok (.iastore, 1) := by decide +kernel
theorem dX3_creditTaken_43 : decode cX3_creditTaken 43 = .ok (.iinc 3 1, 3) := by decide +kernel
theorem dX3_creditTaken_46 : decode cX3_creditTaken 46 = .ok (.goto (-23), 3) := by decide +kernel
theorem dX3_creditTaken_49 : decode cX3_creditTaken 49 = .ok (.return_, 1) := by decide +kernel
theorem dX3_ownPartsOfThoseOut_0 : decode cX3_ownPartsOfThoseOut 0 = .ok (.iconst 0, 1) := by decide +kernel
theorem dX3_ownPartsOfThoseOut_1 : decode cX3_ownPartsOfThoseOut 1 = .ok (.istore_n 2, 1) := by decide +kernel
theorem dX3_ownPartsOfThoseOut_2 : decode cX3_ownPartsOfThoseOut 2 = .ok (.iconst 0, 1) := by decide +kernel
theorem dX3_ownPartsOfThoseOut_3 : decode cX3_ownPartsOfThoseOut 3 = .ok (.istore_n 3, 1) := by decide +kernel
theorem dX3_ownPartsOfThoseOut_4 : decode cX3_ownPartsOfThoseOut 4 = .ok (.iload_n 3, 1) := by decide +kernel
theorem dX3_ownPartsOfThoseOut_5 : decode cX3_ownPartsOfThoseOut 5 = .ok (.iconst 5, 1) := by decide +kernel
theorem dX3_ownPartsOfThoseOut_6 : decode cX3_ownPartsOfThoseOut 6 = .ok (.if_icmp .ge 27, 3) := by decide +kernel
theorem dX3_ownPartsOfThoseOut_9 : decode cX3_ownPartsOfThoseOut 9 = .ok (.aload_n 1, 1) := by decide +kernel
theorem dX3_ownPartsOfThoseOut_10 : decode cX3_ownPartsOfThoseOut 10 = .ok (.getfield 115, 3) := by decide +kernel
theorem dX3_ownPartsOfThoseOut_13 : decode cX3_ownPartsOfThoseOut 13 = .ok (.iload_n 3, 1) := by decide +kernel
theorem dX3_ownPartsOfThoseOut_14 : decode cX3_ownPartsOfThoseOut 14 = .ok (.baload, 1) := by decide +kernel
theorem dX3_ownPartsOfThoseOut_15 : decode cX3_ownPartsOfThoseOut 15 = .ok (.ifCond .eq 12, 3) := by decide +kernel
theorem dX3_ownPartsOfThoseOut_18 : decode cX3_ownPartsOfThoseOut 18 = .ok (.iload_n 2, 1) := by decide +kernel
theorem dX3_ownPartsOfThoseOut_19 : decode cX3_ownPartsOfThoseOut 19 = .ok (.aload_n 0, 1) := by decide +kernel
theorem dX3_ownPartsOfThoseOut_20 : decode cX3_ownPartsOfThoseOut 20 = .ok (.getfield 57, 3) := by decide +kernel
theorem dX3_ownPartsOfThoseOut_23 : decode cX3_ownPartsOfThoseOut 23 = .ok (.iload_n 3, 1) := by decide +kernel
theorem dX3_ownPartsOfThoseOut_24 : decode cX3_ownPartsOfThoseOut 24 = .ok (.iaload, 1) := by decide +kernel
theorem dX3_ownPartsOfThoseOut_25 : decode cX3_ownPartsOfThoseOut 25 = .ok (.iadd, 1) := by decide +kernel
theorem dX3_ownPartsOfThoseOut_26 : decode cX3_ownPartsOfThoseOut 26 = .ok (.istore_n 2, 1) := by decide +kernel
theorem dX3_ownPartsOfThoseOut_27 : decode cX3_ownPartsOfThoseOut 27 = .ok (.iinc 3 1, 3) := by decide +kernel
theorem dX3_ownPartsOfThoseOut_30 : decode cX3_ownPartsOfThoseOut 30 = .ok (.goto (-26), 3) := by decide +kernel
theorem dX3_ownPartsOfThoseOut_33 : decode cX3_ownPartsOfThoseOut 33 = .ok (.iload_n 2, 1) := by decide +kernel
theorem dX3_ownPartsOfThoseOut_34 : decode cX3_ownPartsOfThoseOut 34 = .ok (.ireturn, 1) := by decide +kernel
set_option maxRecDepth 20000 in
theorem ggX3_weighThoseIn_X3_shareIfIn : GoodIn wsX3_weighThoseIn wsX3_shareIfIn := goodIn_r _ [6, 7, 8, 24, 25, 26, 27, 28, 29, 30, 31, 9, 10, 11, 12, 13, 14, 15, 16, 17, 18, 19, 20, 21, 22, 23] (by decide +kernel) (by decide +kernel)
set_option maxRecDepth 20000 in
theorem gX3_weighThoseIn_X3_shareIfIn : GoodIn wsX3_weighThoseIn (wsV RX3 136 RX3 yX3_shareIfIn wsX3_shareIfIn) := goodIn_app (goodIn_of _ (by decide +kernel)) ggX3_weighThoseIn_X3_shareIfIn
theorem dX3_weighThoseIn_0 : decode cX3_weighThoseIn 0 = .ok (.iconst 0, 1) := by decide +kernel
theorem dX3_weighThoseIn_1 : decode cX3_weighThoseIn 1 = .ok (.istore_n 2, 1) := by decide +kernel
theorem dX3_weighThoseIn_2 : decode cX3_weighThoseIn 2 = .ok (.iload_n 2, 1) := by decide +kernel
theorem dX3_weighThoseIn_3 : decode cX3_weighThoseIn 3 = .ok (.iconst 5, 1) := by decide +kernel
theorem dX3_weighThoseIn_4 : decode cX3_weighThoseIn 4 = .ok (.if_icmp .ge 21, 3) := by decide +kernel
theorem dX3_weighThoseIn_7 : decode cX3_weighThoseIn 7 = .ok (.aload_n 0, 1) := by decide +kernel
theorem dX3_weighThoseIn_8 : decode cX3_weighThoseIn 8 = .ok (.getfield 60, 3) := by decide +kernel
theorem dX3_weighThoseIn_11 : decode cX3_weighThoseIn 11 = .ok (.iload_n 2, 1) := by decide +kernel
theorem dX3_weighThoseIn_12 : decode cX3_weighThoseIn 12 = .ok (.aload_n 0, 1) := by decide +kernel
theorem dX3_weighThoseIn_13 : decode cX3_weighThoseIn 13 = .ok (.aload_n 1, 1) := by decide +kernel
theorem dX3_weighThoseIn_14 : decode cX3_weighThoseIn 14 = .ok (.iload_n 2, 1) := by decide +kernel
theorem dX3_weighThoseIn_15 : decode cX3_weighThoseIn 15 = .ok (.invokevirtual 136, 3) := by decide +kernel
theorem dX3_weighThoseIn_18 : decode cX3_weighThoseIn 18 = .ok (.iastore, 1) := by decide +kernel
theorem dX3_weighThoseIn_19 : decode cX3_weighThoseIn 19 = .ok (.iinc 2 1, 3) := by decide +kernel
theorem dX3_weighThoseIn_22 : decode cX3_weighThoseIn 22 = .ok (.goto (-20), 3) := by decide +kernel
theorem dX3_weighThoseIn_25 : decode cX3_weighThoseIn 25 = .ok (.return_, 1) := by decide +kernel
theorem dX3_shareIfIn_0 : decode cX3_shareIfIn 0 = .ok (.aload_n 1, 1) := by decide +kernel
theorem dX3_shareIfIn_1 : decode cX3_shareIfIn 1 = .ok (.getfield 115, 3) := by decide +kernel
theorem dX3_shareIfIn_4 : decode cX3_shareIfIn 4 = .ok (.iload_n 2, 1) := by decide +kernel
theorem dX3_shareIfIn_5 : decode cX3_shareIfIn 5 = .ok (.baload, 1) := by decide +kernel
theorem dX3_shareIfIn_6 : decode cX3_shareIfIn 6 = .ok (.ifCond .eq 7, 3) := by decide +kernel
theorem dX3_shareIfIn_9 : decode cX3_shareIfIn 9 = .ok (.iconst 0, 1) := by decide +kernel
theorem dX3_shareIfIn_10 : decode cX3_shareIfIn 10 = .ok (.goto 9, 3) := by decide +kernel
theorem dX3_shareIfIn_13 : decode cX3_shareIfIn 13 = .ok (.aload_n 0, 1) := by decide +kernel
theorem dX3_shareIfIn_14 : decode cX3_shareIfIn 14 = .ok (.getfield 9, 3) := by decide +kernel
theorem dX3_shareIfIn_17 : decode cX3_shareIfIn 17 = .ok (.iload_n 2, 1) := by decide +kernel
theorem dX3_shareIfIn_18 : decode cX3_shareIfIn 18 = .ok (.iaload, 1) := by decide +kernel
theorem dX3_shareIfIn_19 : decode cX3_shareIfIn 19 = .ok (.ireturn, 1) := by decide +kernel
set_option maxRecDepth 20000 in
theorem ggX3_isAnotherIn_X3_shareIfIn : GoodIn wsX3_isAnotherIn wsX3_shareIfIn := goodIn_r _ [5, 6, 7, 8, 9, 10, 11, 12, 13, 14, 15, 16, 17, 18, 19, 20, 21, 22, 23, 24, 25, 26, 27, 28, 29, 30] (by decide +kernel) (by decide +kernel)
set_option maxRecDepth 20000 in
theorem gX3_isAnotherIn_X3_shareIfIn : GoodIn wsX3_isAnotherIn (wsV RX3 136 RX3 yX3_shareIfIn wsX3_shareIfIn) := goodIn_app (goodIn_of _ (by decide +kernel)) ggX3_isAnotherIn_X3_shareIfIn
theorem dX3_isAnotherIn_0 : decode cX3_isAnotherIn 0 = .ok (.iconst 0, 1) := by decide +kernel
theorem dX3_isAnotherIn_1 : decode cX3_isAnotherIn 1 = .ok (.istore_n 3, 1) := by decide +kernel
theorem dX3_isAnotherIn_2 : decode cX3_isAnotherIn 2 = .ok (.iload_n 3, 1) := by decide +kernel
theorem dX3_isAnotherIn_3 : decode cX3_isAnotherIn 3 = .ok (.iconst 5, 1) := by decide +kernel
theorem dX3_isAnotherIn_4 : decode cX3_isAnotherIn 4 = .ok (.if_icmp .ge 25, 3) := by decide +kernel
theorem dX3_isAnotherIn_7 : decode cX3_isAnotherIn 7 = .ok (.iload_n 3, 1) := by decide +kernel
theorem dX3_isAnotherIn_8 : decode cX3_isAnotherIn 8 = .ok (.iload_n 2, 1) := by decide +kernel
theorem dX3_isAnotherIn_9 : decode cX3_isAnotherIn 9 = .ok (.if_icmp .eq 14, 3) := by decide +kernel
theorem dX3_isAnotherIn_12 : decode cX3_isAnotherIn 12 = .ok (.aload_n 0, 1) := by decide +kernel
theorem dX3_isAnotherIn_13 : decode cX3_isAnotherIn 13 = .ok (.aload_n 1, 1) := by decide +kernel
theorem dX3_isAnotherIn_14 : decode cX3_isAnotherIn 14 = .ok (.iload_n 3, 1) := by decide +kernel
theorem dX3_isAnotherIn_15 : decode cX3_isAnotherIn 15 = .ok (.invokevirtual 136, 3) := by decide +kernel
theorem dX3_isAnotherIn_18 : decode cX3_isAnotherIn 18 = .ok (.ifCond .le 5, 3) := by decide +kernel
theorem dX3_isAnotherIn_21 : decode cX3_isAnotherIn 21 = .ok (.iconst 1, 1) := by decide +kernel
theorem dX3_isAnotherIn_22 : decode cX3_isAnotherIn 22 = .ok (.ireturn, 1) := by decide +kernel
theorem dX3_isAnotherIn_23 : decode cX3_isAnotherIn 23 = .ok (.iinc 3 1, 3) := by decide +kernel
theorem dX3_isAnotherIn_26 : decode cX3_isAnotherIn 26 = .ok (.goto (-24), 3) := by decide +kernel
theorem dX3_isAnotherIn_29 : decode cX3_isAnotherIn 29 = .ok (.iconst 0, 1) := by decide +kernel
theorem dX3_isAnotherIn_30 : decode cX3_isAnotherIn 30 = .ok (.ireturn, 1) := by decide +kernel
set_option maxRecDepth 20000 in
theorem ggX3_moveToPayers_X1_divide : GoodIn wsX3_moveToPayers wsX1_divide := goodIn_r _ [11, 12, 13, 14, 15, 16, 17, 18, 19, 20, 10, 21, 39] (by decide +kernel) (by decide +kernel)
set_option maxRecDepth 20000 in
theorem gX3_moveToPayers_X1_divide : GoodIn wsX3_moveToPayers (wsV RX3 162 RX1 yX1_divide wsX1_divide) := goodIn_app (goodIn_of _ (by decide +kernel)) ggX3_moveToPayers_X1_divide
theorem dX3_moveToPayers_0 : decode cX3_moveToPayers 0 = .ok (.iconst 0, 1) := by decide +kernel
theorem dX3_moveToPayers_1 : decode cX3_moveToPayers 1 = .ok (.istore_n 3, 1) := by decide +kernel
theorem dX3_moveToPayers_2 : decode cX3_moveToPayers 2 = .ok (.iload_n 3, 1) := by decide +kernel
theorem dX3_moveToPayers_3 : decode cX3_moveToPayers 3 = .ok (.iconst 5, 1) := by decide +kernel
theorem dX3_moveToPayers_4 : decode cX3_moveToPayers 4 = .ok (.if_icmp .ge 34, 3) := by decide +kernel
theorem dX3_moveToPayers_7 : decode cX3_moveToPayers 7 = .ok (.aload_n 0, 1) := by decide +kernel
theorem dX3_moveToPayers_8 : decode cX3_moveToPayers 8 = .ok (.getfield 60, 3) := by decide +kernel
theorem dX3_moveToPayers_11 : decode cX3_moveToPayers 11 = .ok (.iload_n 3, 1) := by decide +kernel
theorem dX3_moveToPayers_12 : decode cX3_moveToPayers 12 = .ok (.aload_n 1, 1) := by decide +kernel
theorem dX3_moveToPayers_13 : decode cX3_moveToPayers 13 = .ok (.getfield 169, 3) := by decide +kernel
theorem dX3_moveToPayers_16 : decode cX3_moveToPayers 16 = .ok (.iload_n 3, 1) := by decide +kernel
theorem dX3_moveToPayers_17 : decode cX3_moveToPayers 17 = .ok (.iaload, 1) := by decide +kernel
theorem dX3_moveToPayers_18 : decode cX3_moveToPayers 18 = .ok (.ifCond .le 12, 3) := by decide +kernel
theorem dX3_moveToPayers_21 : decode cX3_moveToPayers 21 = .ok (.aload_n 1, 1) := by decide +kernel
theorem dX3_moveToPayers_22 : decode cX3_moveToPayers 22 = .ok (.getfield 159, 3) := by decide +kernel
theorem dX3_moveToPayers_25 : decode cX3_moveToPayers 25 = .ok (.iload_n 3, 1) := by decide +kernel
theorem dX3_moveToPayers_26 : decode cX3_moveToPayers 26 = .ok (.iaload, 1) := by decide +kernel
theorem dX3_moveToPayers_27 : decode cX3_moveToPayers 27 = .ok (.goto 4, 3) := by decide +kernel
theorem dX3_moveToPayers_30 : decode cX3_moveToPayers 30 = .ok (.iconst 0, 1) := by decide +kernel
theorem dX3_moveToPayers_31 : decode cX3_moveToPayers 31 = .ok (.iastore, 1) := by decide +kernel
theorem dX3_moveToPayers_32 : decode cX3_moveToPayers 32 = .ok (.iinc 3 1, 3) := by decide +kernel
theorem dX3_moveToPayers_35 : decode cX3_moveToPayers 35 = .ok (.goto (-33), 3) := by decide +kernel
theorem dX3_moveToPayers_38 : decode cX3_moveToPayers 38 = .ok (.aload_n 0, 1) := by decide +kernel
theorem dX3_moveToPayers_39 : decode cX3_moveToPayers 39 = .ok (.getfield 53, 3) := by decide +kernel
theorem dX3_moveToPayers_42 : decode cX3_moveToPayers 42 = .ok (.iload_n 2, 1) := by decide +kernel
theorem dX3_moveToPayers_43 : decode cX3_moveToPayers 43 = .ok (.aload_n 0, 1) := by decide +kernel
theorem dX3_moveToPayers_44 : decode cX3_moveToPayers 44 = .ok (.getfield 60, 3) := by decide +kernel
theorem dX3_moveToPayers_47 : decode cX3_moveToPayers 47 = .ok (.aload_n 0, 1) := by decide +kernel
theorem dX3_moveToPayers_48 : decode cX3_moveToPayers 48 = .ok (.getfield 63, 3) := by decide +kernel
theorem dX3_moveToPayers_51 : decode cX3_moveToPayers 51 = .ok (.invokevirtual 162, 3) := by decide +kernel
theorem dX3_moveToPayers_54 : decode cX3_moveToPayers 54 = .ok (.iconst 0, 1) := by decide +kernel
theorem dX3_moveToPayers_55 : decode cX3_moveToPayers 55 = .ok (.istore_n 3, 1) := by decide +kernel
theorem dX3_moveToPayers_56 : decode cX3_moveToPayers 56 = .ok (.iload_n 3, 1) := by decide +kernel
theorem dX3_moveToPayers_57 : decode cX3_moveToPayers 57 = .ok (.iconst 5, 1) := by decide +kernel
theorem dX3_moveToPayers_58 : decode cX3_moveToPayers 58 = .ok (.if_icmp .ge 58, 3) := by decide +kernel
theorem dX3_moveToPayers_61 : decode cX3_moveToPayers 61 = .ok (.aload_n 1, 1) := by decide +kernel
theorem dX3_moveToPayers_62 : decode cX3_moveToPayers 62 = .ok (.getfield 169, 3) := by decide +kernel
theorem dX3_moveToPayers_65 : decode cX3_moveToPayers 65 = .ok (.iload_n 3, 1) := by decide +kernel
theorem dX3_moveToPayers_66 : decode cX3_moveToPayers 66 = .ok (.iaload, 1) := by decide +kernel
theorem dX3_moveToPayers_67 : decode cX3_moveToPayers 67 = .ok (.ifCond .le 21, 3) := by decide +kernel
theorem dX3_moveToPayers_70 : decode cX3_moveToPayers 70 = .ok (.aload_n 1, 1) := by decide +kernel
theorem dX3_moveToPayers_71 : decode cX3_moveToPayers 71 = .ok (.getfield 159, 3) := by decide +kernel
theorem dX3_moveToPayers_74 : decode cX3_moveToPayers 74 = .ok (.iload_n 3, 1) := by decide +kernel
theorem dX3_moveToPayers_75 : decode cX3_moveToPayers 75 = .ok (.dup2, 1) := by decide +kernel
theorem dX3_moveToPayers_76 : decode cX3_moveToPayers 76 = .ok (.iaload, 1) := by decide +kernel
theorem dX3_moveToPayers_77 : decode cX3_moveToPayers 77 = .ok (.aload_n 0, 1) := by decide +kernel
theorem dX3_moveToPayers_78 : decode cX3_moveToPayers 78 = .ok (.getfield 63, 3) := by decide +kernel
theorem dX3_moveToPayers_81 : decode cX3_moveToPayers 81 = .ok (.iload_n 3, 1) := by decide +kernel
theorem dX3_moveToPayers_82 : decode cX3_moveToPayers 82 = .ok (.iaload, 1) := by decide +kernel
theorem dX3_moveToPayers_83 : decode cX3_moveToPayers 83 = .ok (.iadd, 1) := by decide +kernel
theorem dX3_moveToPayers_84 : decode cX3_moveToPayers 84 = .ok (.iastore, 1) := by decide +kernel
theorem dX3_moveToPayers_85 : decode cX3_moveToPayers 85 = .ok (.goto 25, 3) := by decide +kernel
theorem dX3_moveToPayers_88 : decode cX3_moveToPayers 88 = .ok (.aload_n 0, 1) := by decide +kernel
theorem dX3_moveToPayers_89 : decode cX3_moveToPayers 89 = .ok (.getfield 47, 3) := by decide +kernel
theorem dX3_moveToPayers_92 : decode cX3_moveToPayers 92 = .ok (.iload_n 3, 1) := by decide +kernel
theorem dX3_moveToPayers_93 : decode cX3_moveToPayers 93 = .ok (.dup2, 1) := by decide +kernel
theorem dX3_moveToPayers_94 : decode cX3_moveToPayers 94 = .ok (.iaload, 1) := by decide +kernel
theorem dX3_moveToPayers_95 : decode cX3_moveToPayers 95 = .ok (.aload_n 1, 1) := by decide +kernel
theorem dX3_moveToPayers_96 : decode cX3_moveToPayers 96 = .ok (.getfield 159, 3) := by decide +kernel
theorem dX3_moveToPayers_99 : decode cX3_moveToPayers 99 = .ok (.iload_n 3, 1) := by decide +kernel
theorem dX3_moveToPayers_100 : decode cX3_moveToPayers 100 = .ok (.iaload, 1) := by decide +kernel
theorem dX3_moveToPayers_101 : decode cX3_moveToPayers 101 = .ok (.iadd, 1) := by decide +kernel
theorem dX3_moveToPayers_102 : decode cX3_moveToPayers 102 = .ok (.iastore, 1) := by decide +kernel
theorem dX3_moveToPayers_103 : decode cX3_moveToPayers 103 = .ok (.aload_n 1, 1) := by decide +kernel
theorem dX3_moveToPayers_104 : decode cX3_moveToPayers 104 = .ok (.getfield 159, 3) := by decide +kernel
theorem dX3_moveToPayers_107 : decode cX3_moveToPayers 107 = .ok (.iload_n 3, 1) := by decide +kernel
theorem dX3_moveToPayers_108 : decode cX3_moveToPayers 108 = .ok (.iconst 0, 1) := by decide +kernel
theorem dX3_moveToPayers_109 : decode cX3_moveToPayers 109 = .ok (.iastore, 1) := by decide +kernel
theorem dX3_moveToPayers_110 : decode cX3_moveToPayers 110 = .ok (.iinc 3 1, 3) := by decide +kernel
theorem dX3_moveToPayers_113 : decode cX3_moveToPayers 113 = .ok (.goto (-57), 3) := by decide +kernel
theorem dX3_moveToPayers_116 : decode cX3_moveToPayers 116 = .ok (.return_, 1) := by decide +kernel
theorem dX3_paidOfAllCalls_0 : decode cX3_paidOfAllCalls 0 = .ok (.iconst 0, 1) := by decide +kernel
theorem dX3_paidOfAllCalls_1 : decode cX3_paidOfAllCalls 1 = .ok (.istore_n 2, 1) := by decide +kernel
theorem dX3_paidOfAllCalls_2 : decode cX3_paidOfAllCalls 2 = .ok (.iconst 0, 1) := by decide +kernel
theorem dX3_paidOfAllCalls_3 : decode cX3_paidOfAllCalls 3 = .ok (.istore_n 3, 1) := by decide +kernel
theorem dX3_paidOfAllCalls_4 : decode cX3_paidOfAllCalls 4 = .ok (.iload_n 3, 1) := by decide +kernel
theorem dX3_paidOfAllCalls_5 : decode cX3_paidOfAllCalls 5 = .ok (.aload_n 0, 1) := by decide +kernel
theorem dX3_paidOfAllCalls_6 : decode cX3_paidOfAllCalls 6 = .ok (.getfield 44, 3) := by decide +kernel
theorem dX3_paidOfAllCalls_9 : decode cX3_paidOfAllCalls 9 = .ok (.if_icmp .ge 23, 3) := by decide +kernel
theorem dX3_paidOfAllCalls_12 : decode cX3_paidOfAllCalls 12 = .ok (.iload_n 2, 1) := by decide +kernel
theorem dX3_paidOfAllCalls_13 : decode cX3_paidOfAllCalls 13 = .ok (.aload_n 0, 1) := by decide +kernel
theorem dX3_paidOfAllCalls_14 : decode cX3_paidOfAllCalls 14 = .ok (.getfield 40, 3) := by decide +kernel
theorem dX3_paidOfAllCalls_17 : decode cX3_paidOfAllCalls 17 = .ok (.iload_n 3, 1) := by decide +kernel
theorem dX3_paidOfAllCalls_18 : decode cX3_paidOfAllCalls 18 = .ok (.aaload, 1) := by decide +kernel
theorem dX3_paidOfAllCalls_19 : decode cX3_paidOfAllCalls 19 = .ok (.getfield 169, 3) := by decide +kernel
theorem dX3_paidOfAllCalls_22 : decode cX3_paidOfAllCalls 22 = .ok (.iload_n 1, 1) := by decide +kernel
theorem dX3_paidOfAllCalls_23 : decode cX3_paidOfAllCalls 23 = .ok (.iaload, 1) := by decide +kernel
theorem dX3_paidOfAllCalls_24 : decode cX3_paidOfAllCalls 24 = .ok (.iadd, 1) := by decide +kernel
theorem dX3_paidOfAllCalls_25 : decode cX3_paidOfAllCalls 25 = .ok (.istore_n 2, 1) := by decide +kernel
theorem dX3_paidOfAllCalls_26 : decode cX3_paidOfAllCalls 26 = .ok (.iinc 3 1, 3) := by decide +kernel
theorem dX3_paidOfAllCalls_29 : decode cX3_paidOfAllCalls 29 = .ok (.goto (-25), 3) := by decide +kernel
theorem dX3_paidOfAllCalls_32 : decode cX3_paidOfAllCalls 32 = .ok (.iload_n 2, 1) := by decide +kernel
theorem dX3_paidOfAllCalls_33 : decode cX3_paidOfAllCalls 33 = .ok (.ireturn, 1) := by decide +kernel
