theorem dX4_init_0 : decode cX4_init 0 = .ok (.aload_n 0, 1) := by decide +kernel
theorem dX4_init_1 : decode cX4_init 1 = .ok (.invokespecial 1, 3) := by decide +kernel
theorem dX4_init_4 : decode cX4_init 4 = .ok (.aload_n 0, 1) := by decide +kernel
theorem dX4_init_5 : decode cX4_init 5 = .ok (.iconst 5, 1) := by decide +kernel
theorem dX4_init_6 : decode cX4_init 6 = .ok (.newarray .int, 2) := by decide +kernel
theorem dX4_init_8 : decode cX4_init 8 = .ok (.putfield 7, 3) := by decide +kernel
theorem dX4_init_11 : decode cX4_init 11 = .ok (.aload_n 0, 1) := by decide +kernel
theorem dX4_init_12 : decode cX4_init 12 = .ok (.sipush 300, 3) := by decide +kernel
theorem dX4_init_15 : decode cX4_init 15 = .ok (.putfield 13, 3) := by decide +kernel
theorem dX4_init_18 : decode cX4_init 18 = .ok (.aload_n 0, 1) := by decide +kernel
theorem dX4_init_19 : decode cX4_init 19 = .ok (.bipush 6, 2) := by decide +kernel
theorem dX4_init_21 : decode cX4_init 21 = .ok (.newarray .int, 2) := by decide +kernel
theorem dX4_init_23 : decode cX4_init 23 = .ok (.putfield 17, 3) := by decide +kernel
theorem dX4_init_26 : decode cX4_init 26 = .ok (.aload_n 0, 1) := by decide +kernel
theorem dX4_init_27 : decode cX4_init 27 = .ok (.bipush 6, 2) := by decide +kernel
theorem dX4_init_29 : decode cX4_init 29 = .ok (.newarray .boolean, 2) := by decide +kernel
theorem dX4_init_31 : decode cX4_init 31 = .ok (.putfield 20, 3) := by decide +kernel
theorem dX4_init_34 : decode cX4_init 34 = .ok (.aload_n 0, 1) := by decide +kernel
theorem dX4_init_35 : decode cX4_init 35 = .ok (.bipush 30, 2) := by decide +kernel
theorem dX4_init_37 : decode cX4_init 37 = .ok (.newarray .boolean, 2) := by decide +kernel
theorem dX4_init_39 : decode cX4_init 39 = .ok (.putfield 24, 3) := by decide +kernel
theorem dX4_init_42 : decode cX4_init 42 = .ok (.aload_n 0, 1) := by decide +kernel
theorem dX4_init_43 : decode cX4_init 43 = .ok (.bipush 60, 2) := by decide +kernel
theorem dX4_init_45 : decode cX4_init 45 = .ok (.newarray .int, 2) := by decide +kernel
theorem dX4_init_47 : decode cX4_init 47 = .ok (.putfield 27, 3) := by decide +kernel
theorem dX4_init_50 : decode cX4_init 50 = .ok (.aload_n 0, 1) := by decide +kernel
theorem dX4_init_51 : decode cX4_init 51 = .ok (.bipush 60, 2) := by decide +kernel
theorem dX4_init_53 : decode cX4_init 53 = .ok (.newarray .int, 2) := by decide +kernel
theorem dX4_init_55 : decode cX4_init 55 = .ok (.putfield 30, 3) := by decide +kernel
theorem dX4_init_58 : decode cX4_init 58 = .ok (.aload_n 0, 1) := by decide +kernel
theorem dX4_init_59 : decode cX4_init 59 = .ok (.bipush 60, 2) := by decide +kernel
theorem dX4_init_61 : decode cX4_init 61 = .ok (.newarray .boolean, 2) := by decide +kernel
theorem dX4_init_63 : decode cX4_init 63 = .ok (.putfield 33, 3) := by decide +kernel
theorem dX4_init_66 : decode cX4_init 66 = .ok (.aload_n 0, 1) := by decide +kernel
theorem dX4_init_67 : decode cX4_init 67 = .ok (.bipush 100, 2) := by decide +kernel
theorem dX4_init_69 : decode cX4_init 69 = .ok (.newarray .int, 2) := by decide +kernel
theorem dX4_init_71 : decode cX4_init 71 = .ok (.putfield 36, 3) := by decide +kernel
theorem dX4_init_74 : decode cX4_init 74 = .ok (.aload_n 0, 1) := by decide +kernel
theorem dX4_init_75 : decode cX4_init 75 = .ok (.bipush 100, 2) := by decide +kernel
theorem dX4_init_77 : decode cX4_init 77 = .ok (.newarray .int, 2) := by decide +kernel
theorem dX4_init_79 : decode cX4_init 79 = .ok (.putfield 39, 3) := by decide +kernel
theorem dX4_init_82 : decode cX4_init 82 = .ok (.aload_n 0, 1) := by decide +kernel
theorem dX4_init_83 : decode cX4_init 83 = .ok (.iconst 5, 1) := by decide +kernel
theorem dX4_init_84 : decode cX4_init 84 = .ok (.newarray .int, 2) := by decide +kernel
theorem dX4_init_86 : decode cX4_init 86 = .ok (.putfield 42, 3) := by decide +kernel
theorem dX4_init_89 : decode cX4_init 89 = .ok (.aload_n 0, 1) := by decide +kernel
theorem dX4_init_90 : decode cX4_init 90 = .ok (.iconst 5, 1) := by decide +kernel
theorem dX4_init_91 : decode cX4_init 91 = .ok (.newarray .boolean, 2) := by decide +kernel
theorem dX4_init_93 : decode cX4_init 93 = .ok (.putfield 45, 3) := by decide +kernel
theorem dX4_init_96 : decode cX4_init 96 = .ok (.aload_n 0, 1) := by decide +kernel
theorem dX4_init_97 : decode cX4_init 97 = .ok (.iconst 5, 1) := by decide +kernel
theorem dX4_init_98 : decode cX4_init 98 = .ok (.newarray .long, 2) := by decide +kernel
theorem dX4_init_100 : decode cX4_init 100 = .ok (.putfield 48, 3) := by decide +kernel
theorem dX4_init_103 : decode cX4_init 103 = .ok (.aload_n 0, 1) := by decide +kernel
theorem dX4_init_104 : decode cX4_init 104 = .ok (.iconst 5, 1) := by decide +kernel
theorem dX4_init_105 : decode cX4_init 105 = .ok (.newarray .int, 2) := by decide +kernel
theorem dX4_init_107 : decode cX4_init 107 = .ok (.putfield 52, 3) := by decide +kernel
theorem dX4_init_110 : decode cX4_init 110 = .ok (.aload_n 0, 1) := by decide +kernel
theorem dX4_init_111 : decode cX4_init 111 = .ok (.iconst 5, 1) := by decide +kernel
theorem dX4_init_112 : decode cX4_init 112 = .ok (.newarray .int, 2) := by decide +kernel
theorem dX4_init_114 : decode cX4_init 114 = .ok (.putfield 55, 3) := by decide +kernel
theorem dX4_init_117 : decode cX4_init 117 = .ok (.aload_n 0, 1) := by decide +kernel
theorem dX4_init_118 : decode cX4_init 118 = .ok (.iconst 5, 1) := by decide +kernel
theorem dX4_init_119 : decode cX4_init 119 = .ok (.newarray .int, 2) := by decide +kernel
theorem dX4_init_121 : decode cX4_init 121 = .ok (.putfield 58, 3) := by decide +kernel
theorem dX4_init_124 : decode cX4_init 124 = .ok (.aload_n 0, 1) := by decide +kernel
theorem dX4_init_125 : decode cX4_init 125 = .ok (.iconst 5, 1) := by decide +kernel
theorem dX4_init_126 : decode cX4_init 126 = .ok (.newarray .int, 2) := by decide +kernel
theorem dX4_init_128 : decode cX4_init 128 = .ok (.putfield 61, 3) := by decide +kernel
theorem dX4_init_131 : decode cX4_init 131 = .ok (.aload_n 0, 1) := by decide +kernel
theorem dX4_init_132 : decode cX4_init 132 = .ok (.iconst 5, 1) := by decide +kernel
theorem dX4_init_133 : decode cX4_init 133 = .ok (.newarray .int, 2) := by decide +kernel
theorem dX4_init_135 : decode cX4_init 135 = .ok (.putfield 64, 3) := by decide +kernel
theorem dX4_init_138 : decode cX4_init 138 = .ok (.aload_n 0, 1) := by decide +kernel
theorem dX4_init_139 : decode cX4_init 139 = .ok (.iconst 5, 1) := by decide +kernel
theorem dX4_init_140 : decode cX4_init 140 = .ok (.newarray .int, 2) := by decide +kernel
theorem dX4_init_142 : decode cX4_init 142 = .ok (.putfield 67, 3) := by decide +kernel
theorem dX4_init_145 : decode cX4_init 145 = .ok (.aload_n 0, 1) := by decide +kernel
theorem dX4_init_146 : decode cX4_init 146 = .ok (.iconst 5, 1) := by decide +kernel
theorem dX4_init_147 : decode cX4_init 147 = .ok (.newarray .long, 2) := by decide +kernel
theorem dX4_init_149 : decode cX4_init 149 = .ok (.putfield 70, 3) := by decide +kernel
theorem dX4_init_152 : decode cX4_init 152 = .ok (.aload_n 0, 1) := by decide +kernel
theorem dX4_init_153 : decode cX4_init 153 = .ok (.getfield 7, 3) := by decide +kernel
theorem dX4_init_156 : decode cX4_init 156 = .ok (.iconst 0, 1) := by decide +kernel
theorem dX4_init_157 : decode cX4_init 157 = .ok (.sipush 10000, 3) := by decide +kernel
theorem dX4_init_160 : decode cX4_init 160 = .ok (.iastore, 1) := by decide +kernel
theorem dX4_init_161 : decode cX4_init 161 = .ok (.return_, 1) := by decide +kernel
theorem dX4_thrown_0 : decode cX4_thrown 0 = .ok (.aload_n 0, 1) := by decide +kernel
theorem dX4_thrown_1 : decode cX4_thrown 1 = .ok (.getfield 73, 3) := by decide +kernel
theorem dX4_thrown_4 : decode cX4_thrown 4 = .ok (.ireturn, 1) := by decide +kernel
theorem dX4_within_0 : decode cX4_within 0 = .ok (.iload_n 0, 1) := by decide +kernel
theorem dX4_within_1 : decode cX4_within 1 = .ok (.iload_n 1, 1) := by decide +kernel
theorem dX4_within_2 : decode cX4_within 2 = .ok (.if_icmp .lt 12, 3) := by decide +kernel
theorem dX4_within_5 : decode cX4_within 5 = .ok (.iload_n 0, 1) := by decide +kernel
theorem dX4_within_6 : decode cX4_within 6 = .ok (.iload_n 2, 1) := by decide +kernel
theorem dX4_within_7 : decode cX4_within 7 = .ok (.if_icmp .gt 7, 3) := by decide +kernel
theorem dX4_within_10 : decode cX4_within 10 = .ok (.iconst 1, 1) := by decide +kernel
theorem dX4_within_11 : decode cX4_within 11 = .ok (.goto 4, 3) := by decide +kernel
theorem dX4_within_14 : decode cX4_within 14 = .ok (.iconst 0, 1) := by decide +kernel
theorem dX4_within_15 : decode cX4_within 15 = .ok (.ireturn, 1) := by decide +kernel
theorem dX4_goes_0 : decode cX4_goes 0 = .ok (.aload_n 0, 1) := by decide +kernel
theorem dX4_goes_1 : decode cX4_goes 1 = .ok (.iload_n 1, 1) := by decide +kernel
theorem dX4_goes_2 : decode cX4_goes 2 = .ok (.ifCond .ne 7, 3) := by decide +kernel
theorem dX4_goes_5 : decode cX4_goes 5 = .ok (.iconst 1, 1) := by decide +kernel
theorem dX4_goes_6 : decode cX4_goes 6 = .ok (.goto 20, 3) := by decide +kernel
theorem dX4_goes_9 : decode cX4_goes 9 = .ok (.iload_n 2, 1) := by decide +kernel
theorem dX4_goes_10 : decode cX4_goes 10 = .ok (.ifCond .ne 7, 3) := by decide +kernel
theorem dX4_goes_13 : decode cX4_goes 13 = .ok (.iconst 2, 1) := by decide +kernel
theorem dX4_goes_14 : decode cX4_goes 14 = .ok (.goto 12, 3) := by decide +kernel
theorem dX4_goes_17 : decode cX4_goes 17 = .ok (.iload_n 3, 1) := by decide +kernel
theorem dX4_goes_18 : decode cX4_goes 18 = .ok (.ifCond .eq 7, 3) := by decide +kernel
theorem dX4_goes_21 : decode cX4_goes 21 = .ok (.iconst 0, 1) := by decide +kernel
theorem dX4_goes_22 : decode cX4_goes 22 = .ok (.goto 4, 3) := by decide +kernel
theorem dX4_goes_25 : decode cX4_goes 25 = .ok (.iconst 3, 1) := by decide +kernel
theorem dX4_goes_26 : decode cX4_goes 26 = .ok (.putfield 73, 3) := by decide +kernel
theorem dX4_goes_29 : decode cX4_goes 29 = .ok (.aload_n 0, 1) := by decide +kernel
theorem dX4_goes_30 : decode cX4_goes 30 = .ok (.getfield 73, 3) := by decide +kernel
theorem dX4_goes_33 : decode cX4_goes 33 = .ok (.ifCond .ne 7, 3) := by decide +kernel
theorem dX4_goes_36 : decode cX4_goes 36 = .ok (.iconst 1, 1) := by decide +kernel
theorem dX4_goes_37 : decode cX4_goes 37 = .ok (.goto 4, 3) := by decide +kernel
theorem dX4_goes_40 : decode cX4_goes 40 = .ok (.iconst 0, 1) := by decide +kernel
theorem dX4_goes_41 : decode cX4_goes 41 = .ok (.ireturn, 1) := by decide +kernel
set_option maxRecDepth 20000 in
theorem ggX4_isPartner_X4_within : GoodIn wsX4_isPartner wsX4_within := goodIn_r _ [4] (by decide +kernel) (by decide +kernel)
set_option maxRecDepth 20000 in
theorem gX4_isPartner_X4_within : GoodIn wsX4_isPartner (va_wsS RX4 76 yX4_within wsX4_within) := goodIn_app (goodIn_of _ (by decide +kernel)) ggX4_isPartner_X4_within
theorem dX4_isPartner_0 : decode cX4_isPartner 0 = .ok (.iload_n 0, 1) := by decide +kernel
theorem dX4_isPartner_1 : decode cX4_isPartner 1 = .ok (.iconst 0, 1) := by decide +kernel
theorem dX4_isPartner_2 : decode cX4_isPartner 2 = .ok (.iconst 4, 1) := by decide +kernel
theorem dX4_isPartner_3 : decode cX4_isPartner 3 = .ok (.invokestatic 76, 3) := by decide +kernel
theorem dX4_isPartner_6 : decode cX4_isPartner 6 = .ok (.ireturn, 1) := by decide +kernel
set_option maxRecDepth 20000 in
theorem ggX4_isWell_X4_within : GoodIn wsX4_isWell wsX4_within := goodIn_r _ [5] (by decide +kernel) (by decide +kernel)
set_option maxRecDepth 20000 in
theorem gX4_isWell_X4_within : GoodIn wsX4_isWell (va_wsS RX4 76 yX4_within wsX4_within) := goodIn_app (goodIn_of _ (by decide +kernel)) ggX4_isWell_X4_within
theorem dX4_isWell_0 : decode cX4_isWell 0 = .ok (.iload_n 1, 1) := by decide +kernel
theorem dX4_isWell_1 : decode cX4_isWell 1 = .ok (.iconst 0, 1) := by decide +kernel
theorem dX4_isWell_2 : decode cX4_isWell 2 = .ok (.aload_n 0, 1) := by decide +kernel
theorem dX4_isWell_3 : decode cX4_isWell 3 = .ok (.getfield 80, 3) := by decide +kernel
theorem dX4_isWell_6 : decode cX4_isWell 6 = .ok (.iconst 1, 1) := by decide +kernel
theorem dX4_isWell_7 : decode cX4_isWell 7 = .ok (.isub, 1) := by decide +kernel
theorem dX4_isWell_8 : decode cX4_isWell 8 = .ok (.invokestatic 76, 3) := by decide +kernel
theorem dX4_isWell_11 : decode cX4_isWell 11 = .ok (.ireturn, 1) := by decide +kernel
set_option maxRecDepth 20000 in
theorem ggX4_isVoucher_X4_within : GoodIn wsX4_isVoucher wsX4_within := goodIn_r _ [5] (by decide +kernel) (by decide +kernel)
set_option maxRecDepth 20000 in
theorem gX4_isVoucher_X4_within : GoodIn wsX4_isVoucher (va_wsS RX4 76 yX4_within wsX4_within) := goodIn_app (goodIn_of _ (by decide +kernel)) ggX4_isVoucher_X4_within
theorem dX4_isVoucher_0 : decode cX4_isVoucher 0 = .ok (.iload_n 1, 1) := by decide +kernel
theorem dX4_isVoucher_1 : decode cX4_isVoucher 1 = .ok (.iconst 0, 1) := by decide +kernel
theorem dX4_isVoucher_2 : decode cX4_isVoucher 2 = .ok (.aload_n 0, 1) := by decide +kernel
theorem dX4_isVoucher_3 : decode cX4_isVoucher 3 = .ok (.getfield 83, 3) := by decide +kernel
theorem dX4_isVoucher_6 : decode cX4_isVoucher 6 = .ok (.iconst 1, 1) := by decide +kernel
theorem dX4_isVoucher_7 : decode cX4_isVoucher 7 = .ok (.isub, 1) := by decide +kernel
theorem dX4_isVoucher_8 : decode cX4_isVoucher 8 = .ok (.invokestatic 76, 3) := by decide +kernel
theorem dX4_isVoucher_11 : decode cX4_isVoucher 11 = .ok (.ireturn, 1) := by decide +kernel
set_option maxRecDepth 20000 in
theorem ggX4_isCall_X4_within : GoodIn wsX4_isCall wsX4_within := goodIn_r _ [5] (by decide +kernel) (by decide +kernel)
set_option maxRecDepth 20000 in
theorem gX4_isCall_X4_within : GoodIn wsX4_isCall (va_wsS RX4 76 yX4_within wsX4_within) := goodIn_app (goodIn_of _ (by decide +kernel)) ggX4_isCall_X4_within
theorem dX4_isCall_0 : decode cX4_isCall 0 = .ok (.iload_n 1, 1) := by decide +kernel
theorem dX4_isCall_1 : decode cX4_isCall 1 = .ok (.iconst 0, 1) := by decide +kernel
theorem dX4_isCall_2 : decode cX4_isCall 2 = .ok (.aload_n 0, 1) := by decide +kernel
theorem dX4_isCall_3 : decode cX4_isCall 3 = .ok (.getfield 86, 3) := by decide +kernel
theorem dX4_isCall_6 : decode cX4_isCall 6 = .ok (.iconst 1, 1) := by decide +kernel
theorem dX4_isCall_7 : decode cX4_isCall 7 = .ok (.isub, 1) := by decide +kernel
theorem dX4_isCall_8 : decode cX4_isCall 8 = .ok (.invokestatic 76, 3) := by decide +kernel
theorem dX4_isCall_11 : decode cX4_isCall 11 = .ok (.ireturn, 1) := by decide +kernel
set_option maxRecDepth 20000 in
theorem ggX4_isAmount_X4_within : GoodIn wsX4_isAmount wsX4_within := goodIn_r _ [5] (by decide +kernel) (by decide +kernel)
set_option maxRecDepth 20000 in
theorem gX4_isAmount_X4_within : GoodIn wsX4_isAmount (va_wsS RX4 76 yX4_within wsX4_within) := goodIn_app (goodIn_of _ (by decide +kernel)) ggX4_isAmount_X4_within
theorem dX4_isAmount_0 : decode cX4_isAmount 0 = .ok (.iload_n 0, 1) := by decide +kernel
theorem dX4_isAmount_1 : decode cX4_isAmount 1 = .ok (.iconst 1, 1) := by decide +kernel
theorem dX4_isAmount_2 : decode cX4_isAmount 2 = .ok (.ldc 89, 2) := by decide +kernel
theorem dX4_isAmount_4 : decode cX4_isAmount 4 = .ok (.invokestatic 76, 3) := by decide +kernel
theorem dX4_isAmount_7 : decode cX4_isAmount 7 = .ok (.ireturn, 1) := by decide +kernel
theorem dX4_divides_0 : decode cX4_divides 0 = .ok (.lconst 0, 1) := by decide +kernel
theorem dX4_divides_1 : decode cX4_divides 1 = .ok (.lstore_n 3, 1) := by decide +kernel
theorem dX4_divides_2 : decode cX4_divides 2 = .ok (.lload_n 1, 1) := by decide +kernel
theorem dX4_divides_3 : decode cX4_divides 3 = .ok (.lstore 5, 2) := by decide +kernel
theorem dX4_divides_5 : decode cX4_divides 5 = .ok (.iconst 0, 1) := by decide +kernel
theorem dX4_divides_6 : decode cX4_divides 6 = .ok (.istore 7, 2) := by decide +kernel
theorem dX4_divides_8 : decode cX4_divides 8 = .ok (.iload 7, 2) := by decide +kernel
theorem dX4_divides_10 : decode cX4_divides 10 = .ok (.iconst 5, 1) := by decide +kernel
theorem dX4_divides_11 : decode cX4_divides 11 = .ok (.if_icmp .ge 20, 3) := by decide +kernel
theorem dX4_divides_14 : decode cX4_divides 14 = .ok (.lload_n 3, 1) := by decide +kernel
theorem dX4_divides_15 : decode cX4_divides 15 = .ok (.aload_n 0, 1) := by decide +kernel
theorem dX4_divides_16 : decode cX4_divides 16 = .ok (.getfield 61, 3) := by decide +kernel
theorem dX4_divides_19 : decode cX4_divides 19 = .ok (.iload 7, 2) := by decide +kernel
theorem dX4_divides_21 : decode cX4_divides 21 = .ok (.iaload, 1) := by decide +kernel
theorem dX4_divides_22 : decode cX4_divides 22 = .ok (.i2l, 1) := by decide +kernel
theorem dX4_divides_23 : decode cX4_divides 23 = .ok (.ladd, 1) := by decide +kernel
theorem dX4_divides_24 : decode cX4_divides 24 = .ok (.lstore_n 3, 1) := by decide +kernel
theorem dX4_divides_25 : decode cX4_divides 25 = .ok (.iinc 7 1, 3) := by decide +kernel
theorem dX4_divides_28 : decode cX4_divides 28 = .ok (.goto (-20), 3) := by decide +kernel
theorem dX4_divides_31 : decode cX4_divides 31 = .ok (.iconst 0, 1) := by decide +kernel
theorem dX4_divides_32 : decode cX4_divides 32 = .ok (.istore 7, 2) := by decide +kernel
theorem dX4_divides_34 : decode cX4_divides 34 = .ok (.iload 7, 2) := by decide +kernel
theorem dX4_divides_36 : decode cX4_divides 36 = .ok (.iconst 5, 1) := by decide +kernel
theorem dX4_divides_37 : decode cX4_divides 37 = .ok (.if_icmp .ge 61, 3) := by decide +kernel
theorem dX4_divides_40 : decode cX4_divides 40 = .ok (.aload_n 0, 1) := by decide +kernel
theorem dX4_divides_41 : decode cX4_divides 41 = .ok (.getfield 64, 3) := by decide +kernel
theorem dX4_divides_44 : decode cX4_divides 44 = .ok (.iload 7, 2) := by decide +kernel
theorem dX4_divides_46 : decode cX4_divides 46 = .ok (.lload_n 1, 1) := by decide +kernel
theorem dX4_divides_47 : decode cX4_divides 47 = .ok (.aload_n 0, 1) := by decide +kernel
theorem dX4_divides_48 : decode cX4_divides 48 = .ok (.getfield 61, 3) := by decide +kernel
theorem dX4_divides_51 : decode cX4_divides 51 = .ok (.iload 7, 2) := by decide +kernel
theorem dX4_divides_53 : decode cX4_divides 53 = .ok (.iaload, 1) := by decide +kernel
theorem dX4_divides_54 : decode cX4_divides 54 = .ok (.i2l, 1) := by decide +kernel
theorem dX4_divides_55 : decode cX4_divides 55 = .ok (.lmul, 1) := by decide +kernel
theorem dX4_divides_56 : decode cX4_divides 56 = .ok (.lload_n 3, 1) := by decide +kernel
theorem dX4_divides_57 : decode cX4_divides 57 = .ok (.ldiv, 1) := by decide +kernel
theorem dX4_divides_58 : decode cX4_divides 58 = .ok (.l2i, 1) := by decide +kernel
theorem dX4_divides_59 : decode cX4_divides 59 = .ok (.iastore, 1) := by decide +kernel
theorem dX4_divides_60 : decode cX4_divides 60 = .ok (.aload_n 0, 1) := by decide +kernel
theorem dX4_divides_61 : decode cX4_divides 61 = .ok (.getfield 70, 3) := by decide +kernel
theorem dX4_divides_64 : decode cX4_divides 64 = .ok (.iload 7, 2) := by decide +kernel
theorem dX4_divides_66 : decode cX4_divides 66 = .ok (.lload_n 1, 1) := by decide +kernel
theorem dX4_divides_67 : decode cX4_divides 67 = .ok (.aload_n 0, 1) := by decide +kernel
theorem dX4_divides_68 : decode cX4_divides 68 = .ok (.getfield 61, 3) := by decide +kernel
theorem dX4_divides_71 : decode cX4_divides 71 = .ok (.iload 7, 2) := by decide +kernel
theorem dX4_divides_73 : decode cX4_divides 73 = .ok (.iaload, 1) := by decide +kernel
theorem dX4_divides_74 : decode cX4_divides 74 = .ok (.i2l, 1) := by decide +kernel
theorem dX4_divides_75 : decode cX4_divides 75 = .ok (.lmul, 1) := by decide +kernel
theorem dX4_divides_76 : decode cX4_divides 76 = .ok (.lload_n 3, 1) := by decide +kernel
theorem dX4_divides_77 : decode cX4_divides 77 = .ok (.lrem, 1) := by decide +kernel
theorem dX4_divides_78 : decode cX4_divides 78 = .ok (.lastore, 1) := by decide +kernel
theorem dX4_divides_79 : decode cX4_divides 79 = .ok (.lload 5, 2) := by decide +kernel
theorem dX4_divides_81 : decode cX4_divides 81 = .ok (.aload_n 0, 1) := by decide +kernel
theorem dX4_divides_82 : decode cX4_divides 82 = .ok (.getfield 64, 3) := by decide +kernel
theorem dX4_divides_85 : decode cX4_divides 85 = .ok (.iload 7, 2) := by decide +kernel
theorem dX4_divides_87 : decode cX4_divides 87 = .ok (.iaload, 1) := by decide +kernel
theorem dX4_divides_88 : decode cX4_divides 88 = .ok (.i2l, 1) := by decide +kernel
theorem dX4_divides_89 : decode cX4_divides 89 = .ok (.lsub, 1) := by decide +kernel
theorem dX4_divides_90 : decode cX4_divides 90 = .ok (.lstore 5, 2) := by decide +kernel
theorem dX4_divides_92 : decode cX4_divides 92 = .ok (.iinc 7 1, 3) := by decide +kernel
theorem dX4_divides_95 : decode cX4_divides 95 = .ok (.goto (-61), 3) := by decide +kernel
theorem dX4_divides_98 : decode cX4_divides 98 = .ok (.iconst 0, 1) := by decide +kernel
theorem dX4_divides_99 : decode cX4_divides 99 = .ok (.istore 7, 2) := by decide +kernel
theorem dX4_divides_101 : decode cX4_divides 101 = .ok (.iload 7, 2) := by decide +kernel
theorem dX4_divides_103 : decode cX4_divides 103 = .ok (.iconst 5, 1) := by decide +kernel
theorem dX4_divides_104 : decode cX4_divides 104 = .ok (.if_icmp .ge 114, 3) := by decide +kernel
theorem dX4_divides_107 : decode cX4_divides 107 = .ok (.iconst 0, 1) := by decide +kernel
theorem dX4_divides_108 : decode cX4_divides 108 = .ok (.istore 8, 2) := by decide +kernel
theorem dX4_divides_110 : decode cX4_divides 110 = .ok (.iconst 0, 1) := by decide +kernel
theorem dX4_divides_111 : decode cX4_divides 111 = .ok (.istore 9, 2) := by decide +kernel
theorem dX4_divides_113 : decode cX4_divides 113 = .ok (.iload 9, 2) := by decide +kernel
theorem dX4_divides_115 : decode cX4_divides 115 = .ok (.iconst 5, 1) := by decide +kernel
theorem dX4_divides_116 : decode cX4_divides 116 = .ok (.if_icmp .ge 62, 3) := by decide +kernel
theorem dX4_divides_119 : decode cX4_divides 119 = .ok (.iload 8, 2) := by decide +kernel
theorem dX4_divides_121 : decode cX4_divides 121 = .ok (.aload_n 0, 1) := by decide +kernel
theorem dX4_divides_122 : decode cX4_divides 122 = .ok (.getfield 70, 3) := by decide +kernel
theorem dX4_divides_125 : decode cX4_divides 125 = .ok (.iload 9, 2) := by decide +kernel
theorem dX4_divides_127 : decode cX4_divides 127 = .ok (.laload, 1) := by decide +kernel
theorem dX4_divides_128 : decode cX4_divides 128 = .ok (.aload_n 0, 1) := by decide +kernel
theorem dX4_divides_129 : decode cX4_divides 129 = .ok (.getfield 70, 3) := by decide +kernel
theorem dX4_divides_132 : decode cX4_divides 132 = .ok (.iload 7, 2) := by decide +kernel
theorem dX4_divides_134 : decode cX4_divides 134 = .ok (.laload, 1) := by decide +kernel
theorem dX4_divides_135 : decode cX4_divides 135 = .ok (.lcmp, 1) := by decide +kernel
theorem dX4_divides_136 : decode cX4_divides 136 = .ok (.ifCond .gt 28, 3) := by decide +kernel
theorem dX4_divides_139 : decode cX4_divides 139 = .ok (.aload_n 0, 1) := by decide +kernel
theorem dX4_divides_140 : decode cX4_divides 140 = .ok (.getfield 70, 3) := by decide +kernel
theorem dX4_divides_143 : decode cX4_divides 143 = .ok (.iload 9, 2) := by decide +kernel
theorem dX4_divides_145 : decode cX4_divides 145 = .ok (.laload, 1) := by decide +kernel
theorem dX4_divides_146 : decode cX4_divides 146 = .ok (.aload_n 0, 1) := by decide +kernel
theorem dX4_divides_147 : decode cX4_divides 147 = .ok (.getfield 70, 3) := by decide +kernel
theorem dX4_divides_150 : decode cX4_divides 150 = .ok (.iload 7, 2) := by decide +kernel
theorem dX4_divides_152 : decode cX4_divides 152 = .ok (.laload, 1) := by decide +kernel
theorem dX4_divides_153 : decode cX4_divides 153 = .ok (.lcmp, 1) := by decide +kernel
theorem dX4_divides_154 : decode cX4_divides 154 = .ok (.ifCond .ne 14, 3) := by decide +kernel
theorem dX4_divides_157 : decode cX4_divides 157 = .ok (.iload 9, 2) := by decide +kernel
theorem dX4_divides_159 : decode cX4_divides 159 = .ok (.iload 7, 2) := by decide +kernel
theorem dX4_divides_161 : decode cX4_divides 161 = .ok (.if_icmp .ge 7, 3) := by decide +kernel
theorem dX4_divides_164 : decode cX4_divides 164 = .ok (.iconst 1, 1) := by decide +kernel
theorem dX4_divides_165 : decode cX4_divides 165 = .ok (.goto 4, 3) := by decide +kernel
theorem dX4_divides_168 : decode cX4_divides 168 = .ok (.iconst 0, 1) := by decide +kernel
theorem dX4_divides_169 : decode cX4_divides 169 = .ok (.iadd, 1) := by decide +kernel
theorem dX4_divides_170 : decode cX4_divides 170 = .ok (.istore 8, 2) := by decide +kernel
theorem dX4_divides_172 : decode cX4_divides 172 = .ok (.iinc 9 1, 3) := by decide +kernel
theorem dX4_divides_175 : decode cX4_divides 175 = .ok (.goto (-62), 3) := by decide +kernel
theorem dX4_divides_178 : decode cX4_divides 178 = .ok (.aload_n 0, 1) := by decide +kernel
theorem dX4_divides_179 : decode cX4_divides 179 = .ok (.getfield 64, 3) := by decide +kernel
theorem dX4_divides_182 : decode cX4_divides 182 = .ok (.iload 7, 2) := by decide +kernel
theorem dX4_divides_184 : decode cX4_divides 184 = .ok (.dup2, 1) := by decide +kernel
theorem dX4_divides_185 : decode cX4_divides 185 = .ok (.iaload, 1) := by decide +kernel
theorem dX4_divides_186 : decode cX4_divides 186 = .ok (.iload 8, 2) := by decide +kernel
theorem dX4_divides_188 : decode cX4_divides 188 = .ok (.i2l, 1) := by decide +kernel
theorem dX4_divides_189 : decode cX4_divides 189 = .ok (.lload 5, 2) := by decide +kernel
theorem dX4_divides_191 : decode cX4_divides 191 = .ok (.lcmp, 1) := by decide +kernel
theorem dX4_divides_192 : decode cX4_divides 192 = .ok (.ifCond .ge 17, 3) := by decide +kernel
theorem dX4_divides_195 : decode cX4_divides 195 = .ok (.aload_n 0, 1) := by decide +kernel
theorem dX4_divides_196 : decode cX4_divides 196 = .ok (.getfield 61, 3) := by decide +kernel
theorem dX4_divides_199 : decode cX4_divides 199 = .ok (.iload 7, 2) := by decide +kernel
theorem dX4_divides_201 : decode cX4_divides 201 = .ok (.iaload, 1) := by decide +kernel
theorem dX4_divides_202 : decode cX4_divides 202 = .ok (.ifCond .le 7, 3) := by decide +kernel
theorem dX4_divides_205 : decode cX4_divides 205 = .ok (.iconst 1, 1) := by decide +kernel
theorem dX4_divides_206 : decode cX4_divides 206 = .ok (.goto 4, 3) := by decide +kernel
theorem dX4_divides_209 : decode cX4_divides 209 = .ok (.iconst 0, 1) := by decide +kernel
theorem dX4_divides_210 : decode cX4_divides 210 = .ok (.iadd, 1) := by decide +kernel
theorem dX4_divides_211 : decode cX4_divides 211 = .ok (.iastore, 1) := by decide +kernel
theorem dX4_divides_212 : decode cX4_divides 212 = .ok (.iinc 7 1, 3) := by decide +kernel
theorem dX4_divides_215 : decode cX4_divides 215 = .ok (.goto (-114), 3) := by decide +kernel
theorem dX4_divides_218 : decode cX4_divides 218 = .ok (.return_, 1) := by decide +kernel
set_option maxRecDepth 20000 in
theorem ggX4_owns_X4_divides : GoodIn wsX4_owns wsX4_divides := goodIn_r _ [9, 1, 4, 10, 11, 12, 13, 14, 15, 16, 17, 18, 19, 20, 21, 22, 23, 24, 25, 26, 27, 28, 29, 30, 31, 32, 33, 34, 35] (by decide +kernel) (by decide +kernel)
set_option maxRecDepth 20000 in
theorem gX4_owns_X4_divides : GoodIn wsX4_owns (wsV RX4 90 RX4 yX4_divides wsX4_divides) := goodIn_app (goodIn_of _ (by decide +kernel)) ggX4_owns_X4_divides
theorem dX4_owns_0 : decode cX4_owns 0 = .ok (.iconst 0, 1) := by decide +kernel
theorem dX4_owns_1 : decode cX4_owns 1 = .ok (.istore_n 2, 1) := by decide +kernel
theorem dX4_owns_2 : decode cX4_owns 2 = .ok (.iload_n 2, 1) := by decide +kernel
theorem dX4_owns_3 : decode cX4_owns 3 = .ok (.iconst 5, 1) := by decide +kernel
theorem dX4_owns_4 : decode cX4_owns 4 = .ok (.if_icmp .ge 21, 3) := by decide +kernel
theorem dX4_owns_7 : decode cX4_owns 7 = .ok (.aload_n 0, 1) := by decide +kernel
theorem dX4_owns_8 : decode cX4_owns 8 = .ok (.getfield 61, 3) := by decide +kernel
theorem dX4_owns_11 : decode cX4_owns 11 = .ok (.iload_n 2, 1) := by decide +kernel
theorem dX4_owns_12 : decode cX4_owns 12 = .ok (.aload_n 0, 1) := by decide +kernel
theorem dX4_owns_13 : decode cX4_owns 13 = .ok (.getfield 7, 3) := by decide +kernel
theorem dX4_owns_16 : decode cX4_owns 16 = .ok (.iload_n 2, 1) := by decide +kernel
theorem dX4_owns_17 : decode cX4_owns 17 = .ok (.iaload, 1) := by decide +kernel
theorem dX4_owns_18 : decode cX4_owns 18 = .ok (.iastore, 1) := by decide +kernel
theorem dX4_owns_19 : decode cX4_owns 19 = .ok (.iinc 2 1, 3) := by decide +kernel
theorem dX4_owns_22 : decode cX4_owns 22 = .ok (.goto (-20), 3) := by decide +kernel
theorem dX4_owns_25 : decode cX4_owns 25 = .ok (.aload_n 0, 1) := by decide +kernel
theorem dX4_owns_26 : decode cX4_owns 26 = .ok (.iload_n 1, 1) := by decide +kernel
theorem dX4_owns_27 : decode cX4_owns 27 = .ok (.i2l, 1) := by decide +kernel
theorem dX4_owns_28 : decode cX4_owns 28 = .ok (.invokevirtual 90, 3) := by decide +kernel
theorem dX4_owns_31 : decode cX4_owns 31 = .ok (.iconst 0, 1) := by decide +kernel
theorem dX4_owns_32 : decode cX4_owns 32 = .ok (.istore_n 2, 1) := by decide +kernel
theorem dX4_owns_33 : decode cX4_owns 33 = .ok (.iload_n 2, 1) := by decide +kernel
theorem dX4_owns_34 : decode cX4_owns 34 = .ok (.iconst 5, 1) := by decide +kernel
theorem dX4_owns_35 : decode cX4_owns 35 = .ok (.if_icmp .ge 21, 3) := by decide +kernel
theorem dX4_owns_38 : decode cX4_owns 38 = .ok (.aload_n 0, 1) := by decide +kernel
theorem dX4_owns_39 : decode cX4_owns 39 = .ok (.getfield 67, 3) := by decide +kernel
theorem dX4_owns_42 : decode cX4_owns 42 = .ok (.iload_n 2, 1) := by decide +kernel
theorem dX4_owns_43 : decode cX4_owns 43 = .ok (.aload_n 0, 1) := by decide +kernel
theorem dX4_owns_44 : decode cX4_owns 44 = .ok (.getfield 64, 3) := by decide +kernel
theorem dX4_owns_47 : decode cX4_owns 47 = .ok (.iload_n 2, 1) := by decide +kernel
theorem dX4_owns_48 : decode cX4_owns 48 = .ok (.iaload, 1) := by decide +kernel
theorem dX4_owns_49 : decode cX4_owns 49 = .ok (.iastore, 1) := by decide +kernel
theorem dX4_owns_50 : decode cX4_owns 50 = .ok (.iinc 2 1, 3) := by decide +kernel
theorem dX4_owns_53 : decode cX4_owns 53 = .ok (.goto (-20), 3) := by decide +kernel
theorem dX4_owns_56 : decode cX4_owns 56 = .ok (.return_, 1) := by decide +kernel
set_option maxRecDepth 20000 in
theorem ggX4_dividesAmongIn_X4_divides : GoodIn wsX4_dividesAmongIn wsX4_divides := goodIn_r _ [8, 1, 9, 10, 11, 12, 13, 14, 15, 16, 17, 18, 19, 20, 21, 22, 23, 24, 25, 26, 27, 28, 29, 30, 31, 32, 33, 34, 35] (by decide +kernel) (by decide +kernel)
set_option maxRecDepth 20000 in
theorem gX4_dividesAmongIn_X4_divides : GoodIn wsX4_dividesAmongIn (wsV RX4 90 RX4 yX4_divides wsX4_divides) := goodIn_app (goodIn_of _ (by decide +kernel)) ggX4_dividesAmongIn_X4_divides
theorem dX4_dividesAmongIn_0 : decode cX4_dividesAmongIn 0 = .ok (.iconst 0, 1) := by decide +kernel
theorem dX4_dividesAmongIn_1 : decode cX4_dividesAmongIn 1 = .ok (.istore_n 3, 1) := by decide +kernel
theorem dX4_dividesAmongIn_2 : decode cX4_dividesAmongIn 2 = .ok (.iload_n 3, 1) := by decide +kernel
theorem dX4_dividesAmongIn_3 : decode cX4_dividesAmongIn 3 = .ok (.iconst 5, 1) := by decide +kernel
theorem dX4_dividesAmongIn_4 : decode cX4_dividesAmongIn 4 = .ok (.if_icmp .ge 34, 3) := by decide +kernel
theorem dX4_dividesAmongIn_7 : decode cX4_dividesAmongIn 7 = .ok (.aload_n 0, 1) := by decide +kernel
theorem dX4_dividesAmongIn_8 : decode cX4_dividesAmongIn 8 = .ok (.getfield 61, 3) := by decide +kernel
theorem dX4_dividesAmongIn_11 : decode cX4_dividesAmongIn 11 = .ok (.iload_n 3, 1) := by decide +kernel
theorem dX4_dividesAmongIn_12 : decode cX4_dividesAmongIn 12 = .ok (.aload_n 0, 1) := by decide +kernel
theorem dX4_dividesAmongIn_13 : decode cX4_dividesAmongIn 13 = .ok (.getfield 45, 3) := by decide +kernel
theorem dX4_dividesAmongIn_16 : decode cX4_dividesAmongIn 16 = .ok (.iload_n 3, 1) := by decide +kernel
theorem dX4_dividesAmongIn_17 : decode cX4_dividesAmongIn 17 = .ok (.baload, 1) := by decide +kernel
theorem dX4_dividesAmongIn_18 : decode cX4_dividesAmongIn 18 = .ok (.ifCond .eq 12, 3) := by decide +kernel
theorem dX4_dividesAmongIn_21 : decode cX4_dividesAmongIn 21 = .ok (.aload_n 0, 1) := by decide +kernel
theorem dX4_dividesAmongIn_22 : decode cX4_dividesAmongIn 22 = .ok (.getfield 7, 3) := by decide +kernel
theorem dX4_dividesAmongIn_25 : decode cX4_dividesAmongIn 25 = .ok (.iload_n 3, 1) := by decide +kernel
theorem dX4_dividesAmongIn_26 : decode cX4_dividesAmongIn 26 = .ok (.iaload, 1) := by decide +kernel
theorem dX4_dividesAmongIn_27 : decode cX4_dividesAmongIn 27 = .ok (.goto 4, 3) := by decide +kernel
theorem dX4_dividesAmongIn_30 : decode cX4_dividesAmongIn 30 = .ok (.iconst 0, 1) := by decide +kernel
theorem dX4_dividesAmongIn_31 : decode cX4_dividesAmongIn 31 = .ok (.iastore, 1) := by decide +kernel
theorem dX4_dividesAmongIn_32 : decode cX4_dividesAmongIn 32 = .ok (.iinc 3 1, 3) := by decide +kernel
theorem dX4_dividesAmongIn_35 : decode cX4_dividesAmongIn 35 = .ok (.goto (-33), 3) := by decide +kernel
theorem dX4_dividesAmongIn_38 : decode cX4_dividesAmongIn 38 = .ok (.aload_n 0, 1) := by decide +kernel
theorem dX4_dividesAmongIn_39 : decode cX4_dividesAmongIn 39 = .ok (.lload_n 1, 1) := by decide +kernel
theorem dX4_dividesAmongIn_40 : decode cX4_dividesAmongIn 40 = .ok (.invokevirtual 90, 3) := by decide +kernel
theorem dX4_dividesAmongIn_43 : decode cX4_dividesAmongIn 43 = .ok (.return_, 1) := by decide +kernel
set_option maxRecDepth 20000 in
theorem ggX4_costs_X4_owns : GoodIn wsX4_costs wsX4_owns := goodIn_r _ [14, 15, 1, 3, 9, 16, 17, 18, 13, 19, 20, 25, 26, 27, 28, 29, 30, 31, 32, 33, 34, 35, 36, 37, 38, 39, 40, 41, 42, 43, 44, 45, 46, 47, 48, 49] (by decide +kernel) (by decide +kernel)
set_option maxRecDepth 20000 in
theorem gX4_costs_X4_owns : GoodIn wsX4_costs (wsV RX4 94 RX4 yX4_owns wsX4_owns) := goodIn_app (goodIn_of _ (by decide +kernel)) ggX4_costs_X4_owns
set_option maxRecDepth 20000 in
theorem ggX4_costs_X4_dividesAmongIn : GoodIn wsX4_costs wsX4_dividesAmongIn := goodIn_r _ [24, 15, 2, 1, 16, 17, 18, 13, 19, 9, 20, 25, 26, 27, 28, 29, 30, 31, 32, 33, 34, 35, 36, 37, 38, 39, 40, 41, 42, 43, 44, 45, 46, 47, 48, 49] (by decide +kernel) (by decide +kernel)
set_option maxRecDepth 20000 in
theorem gX4_costs_X4_dividesAmongIn : GoodIn wsX4_costs (wsV RX4 102 RX4 yX4_dividesAmongIn wsX4_dividesAmongIn) := goodIn_app (goodIn_of _ (by decide +kernel)) ggX4_costs_X4_dividesAmongIn
theorem dX4_costs_0 : decode cX4_costs 0 = .ok (.aload_n 0, 1) := by decide +kernel
theorem dX4_costs_1 : decode cX4_costs 1 = .ok (.iload_n 2, 1) := by decide +kernel
theorem dX4_costs_2 : decode cX4_costs 2 = .ok (.invokevirtual 94, 3) := by decide +kernel
theorem dX4_costs_5 : decode cX4_costs 5 = .ok (.lconst 0, 1) := by decide +kernel
theorem dX4_costs_6 : decode cX4_costs 6 = .ok (.lstore_n 3, 1) := by decide +kernel
theorem dX4_costs_7 : decode cX4_costs 7 = .ok (.iconst 0, 1) := by decide +kernel
theorem dX4_costs_8 : decode cX4_costs 8 = .ok (.istore 5, 2) := by decide +kernel
theorem dX4_costs_10 : decode cX4_costs 10 = .ok (.iload 5, 2) := by decide +kernel
theorem dX4_costs_12 : decode cX4_costs 12 = .ok (.iconst 5, 1) := by decide +kernel
theorem dX4_costs_13 : decode cX4_costs 13 = .ok (.if_icmp .ge 99, 3) := by decide +kernel
theorem dX4_costs_16 : decode cX4_costs 16 = .ok (.aload_n 0, 1) := by decide +kernel
theorem dX4_costs_17 : decode cX4_costs 17 = .ok (.getfield 7, 3) := by decide +kernel
theorem dX4_costs_20 : decode cX4_costs 20 = .ok (.iload 5, 2) := by decide +kernel
theorem dX4_costs_22 : decode cX4_costs 22 = .ok (.iaload, 1) := by decide +kernel
theorem dX4_costs_23 : decode cX4_costs 23 = .ok (.ifCond .le 17, 3) := by decide +kernel
theorem dX4_costs_26 : decode cX4_costs 26 = .ok (.aload_n 0, 1) := by decide +kernel
theorem dX4_costs_27 : decode cX4_costs 27 = .ok (.getfield 45, 3) := by decide +kernel
theorem dX4_costs_30 : decode cX4_costs 30 = .ok (.iload 5, 2) := by decide +kernel
theorem dX4_costs_32 : decode cX4_costs 32 = .ok (.baload, 1) := by decide +kernel
theorem dX4_costs_33 : decode cX4_costs 33 = .ok (.ifCond .ne 7, 3) := by decide +kernel
theorem dX4_costs_36 : decode cX4_costs 36 = .ok (.iconst 1, 1) := by decide +kernel
theorem dX4_costs_37 : decode cX4_costs 37 = .ok (.goto 4, 3) := by decide +kernel
theorem dX4_costs_40 : decode cX4_costs 40 = .ok (.iconst 0, 1) := by decide +kernel
theorem dX4_costs_41 : decode cX4_costs 41 = .ok (.istore 6, 2) := by decide +kernel
theorem dX4_costs_43 : decode cX4_costs 43 = .ok (.lload_n 3, 1) := by decide +kernel
theorem dX4_costs_44 : decode cX4_costs 44 = .ok (.iload 6, 2) := by decide +kernel
theorem dX4_costs_46 : decode cX4_costs 46 = .ok (.ifCond .eq 14, 3) := by decide +kernel
theorem dX4_costs_49 : decode cX4_costs 49 = .ok (.aload_n 0, 1) := by decide +kernel
theorem dX4_costs_50 : decode cX4_costs 50 = .ok (.getfield 67, 3) := by decide +kernel
theorem dX4_costs_53 : decode cX4_costs 53 = .ok (.iload 5, 2) := by decide +kernel
theorem dX4_costs_55 : decode cX4_costs 55 = .ok (.iaload, 1) := by decide +kernel
theorem dX4_costs_56 : decode cX4_costs 56 = .ok (.i2l, 1) := by decide +kernel
theorem dX4_costs_57 : decode cX4_costs 57 = .ok (.goto 4, 3) := by decide +kernel
theorem dX4_costs_60 : decode cX4_costs 60 = .ok (.lconst 0, 1) := by decide +kernel
theorem dX4_costs_61 : decode cX4_costs 61 = .ok (.ladd, 1) := by decide +kernel
theorem dX4_costs_62 : decode cX4_costs 62 = .ok (.lstore_n 3, 1) := by decide +kernel
theorem dX4_costs_63 : decode cX4_costs 63 = .ok (.aload_n 0, 1) := by decide +kernel
theorem dX4_costs_64 : decode cX4_costs 64 = .ok (.getfield 48, 3) := by decide +kernel
theorem dX4_costs_67 : decode cX4_costs 67 = .ok (.iload 5, 2) := by decide +kernel
theorem dX4_costs_69 : decode cX4_costs 69 = .ok (.dup2, 1) := by decide +kernel
theorem dX4_costs_70 : decode cX4_costs 70 = .ok (.laload, 1) := by decide +kernel
theorem dX4_costs_71 : decode cX4_costs 71 = .ok (.iload 6, 2) := by decide +kernel
theorem dX4_costs_73 : decode cX4_costs 73 = .ok (.ifCond .eq 30, 3) := by decide +kernel
theorem dX4_costs_76 : decode cX4_costs 76 = .ok (.aload_n 0, 1) := by decide +kernel
theorem dX4_costs_77 : decode cX4_costs 77 = .ok (.getfield 67, 3) := by decide +kernel
theorem dX4_costs_80 : decode cX4_costs 80 = .ok (.iload 5, 2) := by decide +kernel
theorem dX4_costs_82 : decode cX4_costs 82 = .ok (.iaload, 1) := by decide +kernel
theorem dX4_costs_83 : decode cX4_costs 83 = .ok (.i2l, 1) := by decide +kernel
theorem dX4_costs_84 : decode cX4_costs 84 = .ok (.aload_n 0, 1) := by decide +kernel
theorem dX4_costs_85 : decode cX4_costs 85 = .ok (.getfield 17, 3) := by decide +kernel
theorem dX4_costs_88 : decode cX4_costs 88 = .ok (.iload_n 1, 1) := by decide +kernel
theorem dX4_costs_89 : decode cX4_costs 89 = .ok (.iaload, 1) := by decide +kernel
theorem dX4_costs_90 : decode cX4_costs 90 = .ok (.i2l, 1) := by decide +kernel
theorem dX4_costs_91 : decode cX4_costs 91 = .ok (.lmul, 1) := by decide +kernel
theorem dX4_costs_92 : decode cX4_costs 92 = .ok (.ldc2_w 98, 3) := by decide +kernel
theorem dX4_costs_95 : decode cX4_costs 95 = .ok (.ladd, 1) := by decide +kernel
theorem dX4_costs_96 : decode cX4_costs 96 = .ok (.ldc2_w 100, 3) := by decide +kernel
theorem dX4_costs_99 : decode cX4_costs 99 = .ok (.ldiv, 1) := by decide +kernel
theorem dX4_costs_100 : decode cX4_costs 100 = .ok (.goto 4, 3) := by decide +kernel
theorem dX4_costs_103 : decode cX4_costs 103 = .ok (.lconst 0, 1) := by decide +kernel
theorem dX4_costs_104 : decode cX4_costs 104 = .ok (.ladd, 1) := by decide +kernel
theorem dX4_costs_105 : decode cX4_costs 105 = .ok (.lastore, 1) := by decide +kernel
theorem dX4_costs_106 : decode cX4_costs 106 = .ok (.iinc 5 1, 3) := by decide +kernel
theorem dX4_costs_109 : decode cX4_costs 109 = .ok (.goto (-99), 3) := by decide +kernel
theorem dX4_costs_112 : decode cX4_costs 112 = .ok (.aload_n 0, 1) := by decide +kernel
theorem dX4_costs_113 : decode cX4_costs 113 = .ok (.lload_n 3, 1) := by decide +kernel
theorem dX4_costs_114 : decode cX4_costs 114 = .ok (.invokevirtual 102, 3) := by decide +kernel
theorem dX4_costs_117 : decode cX4_costs 117 = .ok (.iconst 0, 1) := by decide +kernel
theorem dX4_costs_118 : decode cX4_costs 118 = .ok (.istore 5, 2) := by decide +kernel
theorem dX4_costs_120 : decode cX4_costs 120 = .ok (.iload 5, 2) := by decide +kernel
theorem dX4_costs_122 : decode cX4_costs 122 = .ok (.iconst 5, 1) := by decide +kernel
theorem dX4_costs_123 : decode cX4_costs 123 = .ok (.if_icmp .ge 48, 3) := by decide +kernel
theorem dX4_costs_126 : decode cX4_costs 126 = .ok (.aload_n 0, 1) := by decide +kernel
theorem dX4_costs_127 : decode cX4_costs 127 = .ok (.getfield 55, 3) := by decide +kernel
theorem dX4_costs_130 : decode cX4_costs 130 = .ok (.iload 5, 2) := by decide +kernel
theorem dX4_costs_132 : decode cX4_costs 132 = .ok (.dup2, 1) := by decide +kernel
theorem dX4_costs_133 : decode cX4_costs 133 = .ok (.iaload, 1) := by decide +kernel
theorem dX4_costs_134 : decode cX4_costs 134 = .ok (.aload_n 0, 1) := by decide +kernel
theorem dX4_costs_135 : decode cX4_costs 135 = .ok (.getfield 45, 3) := by decide +kernel
theorem dX4_costs_138 : decode cX4_costs 138 = .ok (.iload 5, 2) := by decide +kernel
theorem dX4_costs_140 : decode cX4_costs 140 = .ok (.baload, 1) := by decide +kernel
theorem dX4_costs_141 : decode cX4_costs 141 = .ok (.ifCond .eq 21, 3) := by decide +kernel
theorem dX4_costs_144 : decode cX4_costs 144 = .ok (.aload_n 0, 1) := by decide +kernel
theorem dX4_costs_145 : decode cX4_costs 145 = .ok (.getfield 67, 3) := by decide +kernel
theorem dX4_costs_148 : decode cX4_costs 148 = .ok (.iload 5, 2) := by decide +kernel
theorem dX4_costs_150 : decode cX4_costs 150 = .ok (.iaload, 1) := by decide +kernel
theorem dX4_costs_151 : decode cX4_costs 151 = .ok (.aload_n 0, 1) := by decide +kernel
theorem dX4_costs_152 : decode cX4_costs 152 = .ok (.getfield 64, 3) := by decide +kernel
theorem dX4_costs_155 : decode cX4_costs 155 = .ok (.iload 5, 2) := by decide +kernel
theorem dX4_costs_157 : decode cX4_costs 157 = .ok (.iaload, 1) := by decide +kernel
theorem dX4_costs_158 : decode cX4_costs 158 = .ok (.iadd, 1) := by decide +kernel
theorem dX4_costs_159 : decode cX4_costs 159 = .ok (.goto 4, 3) := by decide +kernel
theorem dX4_costs_162 : decode cX4_costs 162 = .ok (.iconst 0, 1) := by decide +kernel
theorem dX4_costs_163 : decode cX4_costs 163 = .ok (.iadd, 1) := by decide +kernel
theorem dX4_costs_164 : decode cX4_costs 164 = .ok (.iastore, 1) := by decide +kernel
theorem dX4_costs_165 : decode cX4_costs 165 = .ok (.iinc 5 1, 3) := by decide +kernel
theorem dX4_costs_168 : decode cX4_costs 168 = .ok (.goto (-48), 3) := by decide +kernel
theorem dX4_costs_171 : decode cX4_costs 171 = .ok (.return_, 1) := by decide +kernel
set_option maxRecDepth 20000 in
theorem ggX4_brings_X4_owns : GoodIn wsX4_brings wsX4_owns := goodIn_r _ [12, 13, 1, 3, 6, 14, 15, 16, 11, 17, 18, 23, 24, 25, 26, 27, 28, 29, 30, 31, 32, 33, 34, 35, 36, 37, 38, 39, 40, 41, 42, 43, 44, 45, 46, 47] (by decide +kernel) (by decide +kernel)
set_option maxRecDepth 20000 in
theorem gX4_brings_X4_owns : GoodIn wsX4_brings (wsV RX4 94 RX4 yX4_owns wsX4_owns) := goodIn_app (goodIn_of _ (by decide +kernel)) ggX4_brings_X4_owns
set_option maxRecDepth 20000 in
theorem ggX4_brings_X4_dividesAmongIn : GoodIn wsX4_brings wsX4_dividesAmongIn := goodIn_r _ [22, 13, 2, 1, 14, 15, 16, 11, 17, 6, 18, 23, 24, 25, 26, 27, 28, 29, 30, 31, 32, 33, 34, 35, 36, 37, 38, 39, 40, 41, 42, 43, 44, 45, 46, 47] (by decide +kernel) (by decide +kernel)
set_option maxRecDepth 20000 in
theorem gX4_brings_X4_dividesAmongIn : GoodIn wsX4_brings (wsV RX4 102 RX4 yX4_dividesAmongIn wsX4_dividesAmongIn) := goodIn_app (goodIn_of _ (by decide +kernel)) ggX4_brings_X4_dividesAmongIn
theorem dX4_brings_0 : decode cX4_brings 0 = .ok (.aload_n 0, 1) := by decide +kernel
theorem dX4_brings_1 : decode cX4_brings 1 = .ok (.iload_n 1, 1) := by decide +kernel
theorem dX4_brings_2 : decode cX4_brings 2 = .ok (.invokevirtual 94, 3) := by decide +kernel
theorem dX4_brings_5 : decode cX4_brings 5 = .ok (.iconst 0, 1) := by decide +kernel
theorem dX4_brings_6 : decode cX4_brings 6 = .ok (.istore_n 3, 1) := by decide +kernel
theorem dX4_brings_7 : decode cX4_brings 7 = .ok (.iload_n 3, 1) := by decide +kernel
theorem dX4_brings_8 : decode cX4_brings 8 = .ok (.iconst 5, 1) := by decide +kernel
theorem dX4_brings_9 : decode cX4_brings 9 = .ok (.if_icmp .ge 146, 3) := by decide +kernel
theorem dX4_brings_12 : decode cX4_brings 12 = .ok (.aload_n 0, 1) := by decide +kernel
theorem dX4_brings_13 : decode cX4_brings 13 = .ok (.getfield 7, 3) := by decide +kernel
theorem dX4_brings_16 : decode cX4_brings 16 = .ok (.iload_n 3, 1) := by decide +kernel
theorem dX4_brings_17 : decode cX4_brings 17 = .ok (.iaload, 1) := by decide +kernel
theorem dX4_brings_18 : decode cX4_brings 18 = .ok (.ifCond .le 16, 3) := by decide +kernel
theorem dX4_brings_21 : decode cX4_brings 21 = .ok (.aload_n 0, 1) := by decide +kernel
theorem dX4_brings_22 : decode cX4_brings 22 = .ok (.getfield 45, 3) := by decide +kernel
theorem dX4_brings_25 : decode cX4_brings 25 = .ok (.iload_n 3, 1) := by decide +kernel
theorem dX4_brings_26 : decode cX4_brings 26 = .ok (.baload, 1) := by decide +kernel
theorem dX4_brings_27 : decode cX4_brings 27 = .ok (.ifCond .ne 7, 3) := by decide +kernel
theorem dX4_brings_30 : decode cX4_brings 30 = .ok (.iconst 1, 1) := by decide +kernel
theorem dX4_brings_31 : decode cX4_brings 31 = .ok (.goto 4, 3) := by decide +kernel
theorem dX4_brings_34 : decode cX4_brings 34 = .ok (.iconst 0, 1) := by decide +kernel
theorem dX4_brings_35 : decode cX4_brings 35 = .ok (.istore 4, 2) := by decide +kernel
theorem dX4_brings_37 : decode cX4_brings 37 = .ok (.iload 4, 2) := by decide +kernel
theorem dX4_brings_39 : decode cX4_brings 39 = .ok (.ifCond .ne 7, 3) := by decide +kernel
theorem dX4_brings_42 : decode cX4_brings 42 = .ok (.lconst 0, 1) := by decide +kernel
theorem dX4_brings_43 : decode cX4_brings 43 = .ok (.goto 36, 3) := by decide +kernel
theorem dX4_brings_46 : decode cX4_brings 46 = .ok (.aload_n 0, 1) := by decide +kernel
theorem dX4_brings_47 : decode cX4_brings 47 = .ok (.getfield 67, 3) := by decide +kernel
theorem dX4_brings_50 : decode cX4_brings 50 = .ok (.iload_n 3, 1) := by decide +kernel
theorem dX4_brings_51 : decode cX4_brings 51 = .ok (.iaload, 1) := by decide +kernel
theorem dX4_brings_52 : decode cX4_brings 52 = .ok (.i2l, 1) := by decide +kernel
theorem dX4_brings_53 : decode cX4_brings 53 = .ok (.aload_n 0, 1) := by decide +kernel
theorem dX4_brings_54 : decode cX4_brings 54 = .ok (.getfield 48, 3) := by decide +kernel
theorem dX4_brings_57 : decode cX4_brings 57 = .ok (.iload_n 3, 1) := by decide +kernel
theorem dX4_brings_58 : decode cX4_brings 58 = .ok (.laload, 1) := by decide +kernel
theorem dX4_brings_59 : decode cX4_brings 59 = .ok (.lcmp, 1) := by decide +kernel
theorem dX4_brings_60 : decode cX4_brings 60 = .ok (.ifCond .ge 13, 3) := by decide +kernel
theorem dX4_brings_63 : decode cX4_brings 63 = .ok (.aload_n 0, 1) := by decide +kernel
theorem dX4_brings_64 : decode cX4_brings 64 = .ok (.getfield 67, 3) := by decide +kernel
theorem dX4_brings_67 : decode cX4_brings 67 = .ok (.iload_n 3, 1) := by decide +kernel
theorem dX4_brings_68 : decode cX4_brings 68 = .ok (.iaload, 1) := by decide +kernel
theorem dX4_brings_69 : decode cX4_brings 69 = .ok (.i2l, 1) := by decide +kernel
theorem dX4_brings_70 : decode cX4_brings 70 = .ok (.goto 9, 3) := by decide +kernel
theorem dX4_brings_73 : decode cX4_brings 73 = .ok (.aload_n 0, 1) := by decide +kernel
theorem dX4_brings_74 : decode cX4_brings 74 = .ok (.getfield 48, 3) := by decide +kernel
theorem dX4_brings_77 : decode cX4_brings 77 = .ok (.iload_n 3, 1) := by decide +kernel
theorem dX4_brings_78 : decode cX4_brings 78 = .ok (.laload, 1) := by decide +kernel
theorem dX4_brings_79 : decode cX4_brings 79 = .ok (.lstore 5, 2) := by decide +kernel
theorem dX4_brings_81 : decode cX4_brings 81 = .ok (.aload_n 0, 1) := by decide +kernel
theorem dX4_brings_82 : decode cX4_brings 82 = .ok (.getfield 48, 3) := by decide +kernel
theorem dX4_brings_85 : decode cX4_brings 85 = .ok (.iload_n 3, 1) := by decide +kernel
theorem dX4_brings_86 : decode cX4_brings 86 = .ok (.dup2, 1) := by decide +kernel
theorem dX4_brings_87 : decode cX4_brings 87 = .ok (.laload, 1) := by decide +kernel
theorem dX4_brings_88 : decode cX4_brings 88 = .ok (.lload 5, 2) := by decide +kernel
theorem dX4_brings_90 : decode cX4_brings 90 = .ok (.lsub, 1) := by decide +kernel
theorem dX4_brings_91 : decode cX4_brings 91 = .ok (.lastore, 1) := by decide +kernel
theorem dX4_brings_92 : decode cX4_brings 92 = .ok (.aload_n 0, 1) := by decide +kernel
theorem dX4_brings_93 : decode cX4_brings 93 = .ok (.getfield 58, 3) := by decide +kernel
theorem dX4_brings_96 : decode cX4_brings 96 = .ok (.iload_n 3, 1) := by decide +kernel
theorem dX4_brings_97 : decode cX4_brings 97 = .ok (.dup2, 1) := by decide +kernel
theorem dX4_brings_98 : decode cX4_brings 98 = .ok (.iaload, 1) := by decide +kernel
theorem dX4_brings_99 : decode cX4_brings 99 = .ok (.aload_n 0, 1) := by decide +kernel
theorem dX4_brings_100 : decode cX4_brings 100 = .ok (.getfield 67, 3) := by decide +kernel
theorem dX4_brings_103 : decode cX4_brings 103 = .ok (.iload_n 3, 1) := by decide +kernel
theorem dX4_brings_104 : decode cX4_brings 104 = .ok (.iaload, 1) := by decide +kernel
theorem dX4_brings_105 : decode cX4_brings 105 = .ok (.lload 5, 2) := by decide +kernel
theorem dX4_brings_107 : decode cX4_brings 107 = .ok (.l2i, 1) := by decide +kernel
theorem dX4_brings_108 : decode cX4_brings 108 = .ok (.isub, 1) := by decide +kernel
theorem dX4_brings_109 : decode cX4_brings 109 = .ok (.iadd, 1) := by decide +kernel
theorem dX4_brings_110 : decode cX4_brings 110 = .ok (.iastore, 1) := by decide +kernel
theorem dX4_brings_111 : decode cX4_brings 111 = .ok (.aload_n 0, 1) := by decide +kernel
theorem dX4_brings_112 : decode cX4_brings 112 = .ok (.lload 5, 2) := by decide +kernel
theorem dX4_brings_114 : decode cX4_brings 114 = .ok (.invokevirtual 102, 3) := by decide +kernel
theorem dX4_brings_117 : decode cX4_brings 117 = .ok (.iconst 0, 1) := by decide +kernel
theorem dX4_brings_118 : decode cX4_brings 118 = .ok (.istore 7, 2) := by decide +kernel
theorem dX4_brings_120 : decode cX4_brings 120 = .ok (.iload 7, 2) := by decide +kernel
theorem dX4_brings_122 : decode cX4_brings 122 = .ok (.iconst 5, 1) := by decide +kernel
theorem dX4_brings_123 : decode cX4_brings 123 = .ok (.if_icmp .ge 26, 3) := by decide +kernel
theorem dX4_brings_126 : decode cX4_brings 126 = .ok (.aload_n 0, 1) := by decide +kernel
theorem dX4_brings_127 : decode cX4_brings 127 = .ok (.getfield 58, 3) := by decide +kernel
theorem dX4_brings_130 : decode cX4_brings 130 = .ok (.iload 7, 2) := by decide +kernel
theorem dX4_brings_132 : decode cX4_brings 132 = .ok (.dup2, 1) := by decide +kernel
theorem dX4_brings_133 : decode cX4_brings 133 = .ok (.iaload, 1) := by decide +kernel
theorem dX4_brings_134 : decode cX4_brings 134 = .ok (.aload_n 0, 1) := by decide +kernel
theorem dX4_brings_135 : decode cX4_brings 135 = .ok (.getfield 64, 3) := by decide +kernel
theorem dX4_brings_138 : decode cX4_brings 138 = .ok (.iload 7, 2) := by decide +kernel
theorem dX4_brings_140 : decode cX4_brings 140 = .ok (.iaload, 1) := by decide +kernel
theorem dX4_brings_141 : decode cX4_brings 141 = .ok (.iadd, 1) := by decide +kernel
theorem dX4_brings_142 : decode cX4_brings 142 = .ok (.iastore, 1) := by decide +kernel
theorem dX4_brings_143 : decode cX4_brings 143 = .ok (.iinc 7 1, 3) := by decide +kernel
theorem dX4_brings_146 : decode cX4_brings 146 = .ok (.goto (-26), 3) := by decide +kernel
theorem dX4_brings_149 : decode cX4_brings 149 = .ok (.iinc 3 1, 3) := by decide +kernel
theorem dX4_brings_152 : decode cX4_brings 152 = .ok (.goto (-145), 3) := by decide +kernel
theorem dX4_brings_155 : decode cX4_brings 155 = .ok (.iconst 0, 1) := by decide +kernel
theorem dX4_brings_156 : decode cX4_brings 156 = .ok (.istore_n 3, 1) := by decide +kernel
theorem dX4_brings_157 : decode cX4_brings 157 = .ok (.iload_n 3, 1) := by decide +kernel
theorem dX4_brings_158 : decode cX4_brings 158 = .ok (.iconst 5, 1) := by decide +kernel
theorem dX4_brings_159 : decode cX4_brings 159 = .ok (.if_icmp .ge 52, 3) := by decide +kernel
theorem dX4_brings_162 : decode cX4_brings 162 = .ok (.aload_n 0, 1) := by decide +kernel
theorem dX4_brings_163 : decode cX4_brings 163 = .ok (.getfield 7, 3) := by decide +kernel
theorem dX4_brings_166 : decode cX4_brings 166 = .ok (.iload_n 3, 1) := by decide +kernel
theorem dX4_brings_167 : decode cX4_brings 167 = .ok (.iaload, 1) := by decide +kernel
theorem dX4_brings_168 : decode cX4_brings 168 = .ok (.ifCond .le 37, 3) := by decide +kernel
theorem dX4_brings_171 : decode cX4_brings 171 = .ok (.aload_n 0, 1) := by decide +kernel
theorem dX4_brings_172 : decode cX4_brings 172 = .ok (.getfield 45, 3) := by decide +kernel
theorem dX4_brings_175 : decode cX4_brings 175 = .ok (.iload_n 3, 1) := by decide +kernel
theorem dX4_brings_176 : decode cX4_brings 176 = .ok (.baload, 1) := by decide +kernel
theorem dX4_brings_177 : decode cX4_brings 177 = .ok (.ifCond .ne 28, 3) := by decide +kernel
theorem dX4_brings_180 : decode cX4_brings 180 = .ok (.aload_n 0, 1) := by decide +kernel
theorem dX4_brings_181 : decode cX4_brings 181 = .ok (.getfield 48, 3) := by decide +kernel
theorem dX4_brings_184 : decode cX4_brings 184 = .ok (.iload_n 3, 1) := by decide +kernel
theorem dX4_brings_185 : decode cX4_brings 185 = .ok (.laload, 1) := by decide +kernel
theorem dX4_brings_186 : decode cX4_brings 186 = .ok (.lconst 0, 1) := by decide +kernel
theorem dX4_brings_187 : decode cX4_brings 187 = .ok (.lcmp, 1) := by decide +kernel
theorem dX4_brings_188 : decode cX4_brings 188 = .ok (.ifCond .ne 17, 3) := by decide +kernel
theorem dX4_brings_191 : decode cX4_brings 191 = .ok (.aload_n 0, 1) := by decide +kernel
theorem dX4_brings_192 : decode cX4_brings 192 = .ok (.getfield 45, 3) := by decide +kernel
theorem dX4_brings_195 : decode cX4_brings 195 = .ok (.iload_n 3, 1) := by decide +kernel
theorem dX4_brings_196 : decode cX4_brings 196 = .ok (.iconst 1, 1) := by decide +kernel
theorem dX4_brings_197 : decode cX4_brings 197 = .ok (.bastore, 1) := by decide +kernel
theorem dX4_brings_198 : decode cX4_brings 198 = .ok (.aload_n 0, 1) := by decide +kernel
theorem dX4_brings_199 : decode cX4_brings 199 = .ok (.getfield 52, 3) := by decide +kernel
theorem dX4_brings_202 : decode cX4_brings 202 = .ok (.iload_n 3, 1) := by decide +kernel
theorem dX4_brings_203 : decode cX4_brings 203 = .ok (.iload_n 2, 1) := by decide +kernel
theorem dX4_brings_204 : decode cX4_brings 204 = .ok (.iastore, 1) := by decide +kernel
theorem dX4_brings_205 : decode cX4_brings 205 = .ok (.iinc 3 1, 3) := by decide +kernel
theorem dX4_brings_208 : decode cX4_brings 208 = .ok (.goto (-51), 3) := by decide +kernel
theorem dX4_brings_211 : decode cX4_brings 211 = .ok (.return_, 1) := by decide +kernel
set_option maxRecDepth 20000 in
theorem ggX4_works_X4_brings : GoodIn wsX4_works wsX4_brings := goodIn_r _ [16, 2, 1, 17, 4, 7, 18, 5, 19, 20, 21, 15, 22, 23, 24, 25, 26, 27, 28, 29, 30, 31, 32, 40, 41, 42, 43, 44, 45, 46, 47, 48, 49, 50, 51, 52, 53, 54, 55, 56, 57, 58, 59, 60, 61, 62, 63, 64] (by decide +kernel) (by decide +kernel)
set_option maxRecDepth 20000 in
theorem gX4_works_X4_brings : GoodIn wsX4_works (wsV RX4 105 RX4 yX4_brings wsX4_brings) := goodIn_app (goodIn_of _ (by decide +kernel)) ggX4_works_X4_brings
set_option maxRecDepth 20000 in
theorem ggX4_works_X4_costs : GoodIn wsX4_works wsX4_costs := goodIn_r _ [36, 2, 1, 17, 4, 37, 38, 39, 6, 18, 19, 20, 21, 15, 22, 23, 24, 25, 26, 27, 28, 29, 30, 31, 32, 40, 41, 42, 43, 44, 45, 46, 47, 48, 49, 50, 51, 52, 53, 54, 55, 56, 57, 58, 59, 60, 61, 62, 63, 64] (by decide +kernel) (by decide +kernel)
set_option maxRecDepth 20000 in
theorem gX4_works_X4_costs : GoodIn wsX4_works (wsV RX4 109 RX4 yX4_costs wsX4_costs) := goodIn_app (goodIn_of _ (by decide +kernel)) ggX4_works_X4_costs
theorem dX4_works_0 : decode cX4_works 0 = .ok (.iconst 0, 1) := by decide +kernel
theorem dX4_works_1 : decode cX4_works 1 = .ok (.istore_n 2, 1) := by decide +kernel
theorem dX4_works_2 : decode cX4_works 2 = .ok (.iload_n 2, 1) := by decide +kernel
theorem dX4_works_3 : decode cX4_works 3 = .ok (.iconst 5, 1) := by decide +kernel
theorem dX4_works_4 : decode cX4_works 4 = .ok (.if_icmp .ge 70, 3) := by decide +kernel
theorem dX4_works_7 : decode cX4_works 7 = .ok (.aload_n 0, 1) := by decide +kernel
theorem dX4_works_8 : decode cX4_works 8 = .ok (.getfield 45, 3) := by decide +kernel
theorem dX4_works_11 : decode cX4_works 11 = .ok (.iload_n 2, 1) := by decide +kernel
theorem dX4_works_12 : decode cX4_works 12 = .ok (.aload_n 0, 1) := by decide +kernel
theorem dX4_works_13 : decode cX4_works 13 = .ok (.getfield 7, 3) := by decide +kernel
theorem dX4_works_16 : decode cX4_works 16 = .ok (.iload_n 2, 1) := by decide +kernel
theorem dX4_works_17 : decode cX4_works 17 = .ok (.iaload, 1) := by decide +kernel
theorem dX4_works_18 : decode cX4_works 18 = .ok (.ifCond .le 20, 3) := by decide +kernel
theorem dX4_works_21 : decode cX4_works 21 = .ok (.aload_n 0, 1) := by decide +kernel
theorem dX4_works_22 : decode cX4_works 22 = .ok (.getfield 24, 3) := by decide +kernel
theorem dX4_works_25 : decode cX4_works 25 = .ok (.iconst 5, 1) := by decide +kernel
theorem dX4_works_26 : decode cX4_works 26 = .ok (.iload_n 1, 1) := by decide +kernel
theorem dX4_works_27 : decode cX4_works 27 = .ok (.imul, 1) := by decide +kernel
theorem dX4_works_28 : decode cX4_works 28 = .ok (.iload_n 2, 1) := by decide +kernel
theorem dX4_works_29 : decode cX4_works 29 = .ok (.iadd, 1) := by decide +kernel
theorem dX4_works_30 : decode cX4_works 30 = .ok (.baload, 1) := by decide +kernel
theorem dX4_works_31 : decode cX4_works 31 = .ok (.ifCond .ne 7, 3) := by decide +kernel
theorem dX4_works_34 : decode cX4_works 34 = .ok (.iconst 1, 1) := by decide +kernel
theorem dX4_works_35 : decode cX4_works 35 = .ok (.goto 4, 3) := by decide +kernel
theorem dX4_works_38 : decode cX4_works 38 = .ok (.iconst 0, 1) := by decide +kernel
theorem dX4_works_39 : decode cX4_works 39 = .ok (.bastore, 1) := by decide +kernel
theorem dX4_works_40 : decode cX4_works 40 = .ok (.aload_n 0, 1) := by decide +kernel
theorem dX4_works_41 : decode cX4_works 41 = .ok (.getfield 48, 3) := by decide +kernel
theorem dX4_works_44 : decode cX4_works 44 = .ok (.iload_n 2, 1) := by decide +kernel
theorem dX4_works_45 : decode cX4_works 45 = .ok (.lconst 0, 1) := by decide +kernel
theorem dX4_works_46 : decode cX4_works 46 = .ok (.lastore, 1) := by decide +kernel
theorem dX4_works_47 : decode cX4_works 47 = .ok (.aload_n 0, 1) := by decide +kernel
theorem dX4_works_48 : decode cX4_works 48 = .ok (.getfield 52, 3) := by decide +kernel
theorem dX4_works_51 : decode cX4_works 51 = .ok (.iload_n 2, 1) := by decide +kernel
theorem dX4_works_52 : decode cX4_works 52 = .ok (.iconst (-1), 1) := by decide +kernel
theorem dX4_works_53 : decode cX4_works 53 = .ok (.iastore, 1) := by decide +kernel
theorem dX4_works_54 : decode cX4_works 54 = .ok (.aload_n 0, 1) := by decide +kernel
theorem dX4_works_55 : decode cX4_works 55 = .ok (.getfield 55, 3) := by decide +kernel
theorem dX4_works_58 : decode cX4_works 58 = .ok (.iload_n 2, 1) := by decide +kernel
theorem dX4_works_59 : decode cX4_works 59 = .ok (.iconst 0, 1) := by decide +kernel
theorem dX4_works_60 : decode cX4_works 60 = .ok (.iastore, 1) := by decide +kernel
theorem dX4_works_61 : decode cX4_works 61 = .ok (.aload_n 0, 1) := by decide +kernel
theorem dX4_works_62 : decode cX4_works 62 = .ok (.getfield 58, 3) := by decide +kernel
theorem dX4_works_65 : decode cX4_works 65 = .ok (.iload_n 2, 1) := by decide +kernel
theorem dX4_works_66 : decode cX4_works 66 = .ok (.iconst 0, 1) := by decide +kernel
theorem dX4_works_67 : decode cX4_works 67 = .ok (.iastore, 1) := by decide +kernel
theorem dX4_works_68 : decode cX4_works 68 = .ok (.iinc 2 1, 3) := by decide +kernel
theorem dX4_works_71 : decode cX4_works 71 = .ok (.goto (-69), 3) := by decide +kernel
theorem dX4_works_74 : decode cX4_works 74 = .ok (.iconst 0, 1) := by decide +kernel
theorem dX4_works_75 : decode cX4_works 75 = .ok (.istore_n 2, 1) := by decide +kernel
theorem dX4_works_76 : decode cX4_works 76 = .ok (.iload_n 2, 1) := by decide +kernel
theorem dX4_works_77 : decode cX4_works 77 = .ok (.aload_n 0, 1) := by decide +kernel
theorem dX4_works_78 : decode cX4_works 78 = .ok (.getfield 83, 3) := by decide +kernel
theorem dX4_works_81 : decode cX4_works 81 = .ok (.if_icmp .ge 63, 3) := by decide +kernel
theorem dX4_works_84 : decode cX4_works 84 = .ok (.aload_n 0, 1) := by decide +kernel
theorem dX4_works_85 : decode cX4_works 85 = .ok (.getfield 27, 3) := by decide +kernel
theorem dX4_works_88 : decode cX4_works 88 = .ok (.iload_n 2, 1) := by decide +kernel
theorem dX4_works_89 : decode cX4_works 89 = .ok (.iaload, 1) := by decide +kernel
theorem dX4_works_90 : decode cX4_works 90 = .ok (.iload_n 1, 1) := by decide +kernel
theorem dX4_works_91 : decode cX4_works 91 = .ok (.if_icmp .ne 26, 3) := by decide +kernel
theorem dX4_works_94 : decode cX4_works 94 = .ok (.aload_n 0, 1) := by decide +kernel
theorem dX4_works_95 : decode cX4_works 95 = .ok (.getfield 33, 3) := by decide +kernel
theorem dX4_works_98 : decode cX4_works 98 = .ok (.iload_n 2, 1) := by decide +kernel
theorem dX4_works_99 : decode cX4_works 99 = .ok (.baload, 1) := by decide +kernel
theorem dX4_works_100 : decode cX4_works 100 = .ok (.ifCond .eq 17, 3) := by decide +kernel
theorem dX4_works_103 : decode cX4_works 103 = .ok (.aload_n 0, 1) := by decide +kernel
theorem dX4_works_104 : decode cX4_works 104 = .ok (.aload_n 0, 1) := by decide +kernel
theorem dX4_works_105 : decode cX4_works 105 = .ok (.getfield 30, 3) := by decide +kernel
theorem dX4_works_108 : decode cX4_works 108 = .ok (.iload_n 2, 1) := by decide +kernel
theorem dX4_works_109 : decode cX4_works 109 = .ok (.iaload, 1) := by decide +kernel
theorem dX4_works_110 : decode cX4_works 110 = .ok (.iload_n 2, 1) := by decide +kernel
theorem dX4_works_111 : decode cX4_works 111 = .ok (.invokevirtual 105, 3) := by decide +kernel
theorem dX4_works_114 : decode cX4_works 114 = .ok (.goto 24, 3) := by decide +kernel
theorem dX4_works_117 : decode cX4_works 117 = .ok (.aload_n 0, 1) := by decide +kernel
theorem dX4_works_118 : decode cX4_works 118 = .ok (.getfield 27, 3) := by decide +kernel
theorem dX4_works_121 : decode cX4_works 121 = .ok (.iload_n 2, 1) := by decide +kernel
theorem dX4_works_122 : decode cX4_works 122 = .ok (.iaload, 1) := by decide +kernel
theorem dX4_works_123 : decode cX4_works 123 = .ok (.iload_n 1, 1) := by decide +kernel
theorem dX4_works_124 : decode cX4_works 124 = .ok (.if_icmp .ne 14, 3) := by decide +kernel
theorem dX4_works_127 : decode cX4_works 127 = .ok (.aload_n 0, 1) := by decide +kernel
theorem dX4_works_128 : decode cX4_works 128 = .ok (.iload_n 1, 1) := by decide +kernel
theorem dX4_works_129 : decode cX4_works 129 = .ok (.aload_n 0, 1) := by decide +kernel
theorem dX4_works_130 : decode cX4_works 130 = .ok (.getfield 30, 3) := by decide +kernel
theorem dX4_works_133 : decode cX4_works 133 = .ok (.iload_n 2, 1) := by decide +kernel
theorem dX4_works_134 : decode cX4_works 134 = .ok (.iaload, 1) := by decide +kernel
theorem dX4_works_135 : decode cX4_works 135 = .ok (.invokevirtual 109, 3) := by decide +kernel
theorem dX4_works_138 : decode cX4_works 138 = .ok (.iinc 2 1, 3) := by decide +kernel
theorem dX4_works_141 : decode cX4_works 141 = .ok (.goto (-65), 3) := by decide +kernel
theorem dX4_works_144 : decode cX4_works 144 = .ok (.return_, 1) := by decide +kernel
set_option maxRecDepth 20000 in
theorem ggX4_isShare_X4_within : GoodIn wsX4_isShare wsX4_within := goodIn_r _ [4] (by decide +kernel) (by decide +kernel)
set_option maxRecDepth 20000 in
theorem gX4_isShare_X4_within : GoodIn wsX4_isShare (va_wsS RX4 76 yX4_within wsX4_within) := goodIn_app (goodIn_of _ (by decide +kernel)) ggX4_isShare_X4_within
theorem dX4_isShare_0 : decode cX4_isShare 0 = .ok (.iload_n 0, 1) := by decide +kernel
theorem dX4_isShare_1 : decode cX4_isShare 1 = .ok (.iconst 0, 1) := by decide +kernel
theorem dX4_isShare_2 : decode cX4_isShare 2 = .ok (.sipush 10000, 3) := by decide +kernel
theorem dX4_isShare_5 : decode cX4_isShare 5 = .ok (.invokestatic 76, 3) := by decide +kernel
theorem dX4_isShare_8 : decode cX4_isShare 8 = .ok (.ireturn, 1) := by decide +kernel
set_option maxRecDepth 20000 in
theorem ggX4_setShares_X4_isShare : GoodIn wsX4_setShares wsX4_isShare := goodIn_r _ [6, 7, 8, 5, 9] (by decide +kernel) (by decide +kernel)
set_option maxRecDepth 20000 in
theorem gX4_setShares_X4_isShare : GoodIn wsX4_setShares (va_wsS RX4 112 yX4_isShare wsX4_isShare) := goodIn_app (goodIn_of _ (by decide +kernel)) ggX4_setShares_X4_isShare
set_option maxRecDepth 20000 in
theorem ggX4_setShares_X4_goes : GoodIn wsX4_setShares wsX4_goes := goodIn_r _ [13, 14, 15, 16, 17, 18, 19, 20, 21, 22, 23, 24, 25, 26, 27, 28, 29, 30, 31, 32, 33, 34, 35, 36, 37, 38, 39] (by decide +kernel) (by decide +kernel)
set_option maxRecDepth 20000 in
theorem gX4_setShares_X4_goes : GoodIn wsX4_setShares (wsV RX4 116 RX4 yX4_goes wsX4_goes) := goodIn_app (goodIn_of _ (by decide +kernel)) ggX4_setShares_X4_goes
theorem dX4_setShares_0 : decode cX4_setShares 0 = .ok (.iload_n 1, 1) := by decide +kernel
theorem dX4_setShares_1 : decode cX4_setShares 1 = .ok (.invokestatic 112, 3) := by decide +kernel
theorem dX4_setShares_4 : decode cX4_setShares 4 = .ok (.ifCond .eq 37, 3) := by decide +kernel
theorem dX4_setShares_7 : decode cX4_setShares 7 = .ok (.iload_n 2, 1) := by decide +kernel
theorem dX4_setShares_8 : decode cX4_setShares 8 = .ok (.invokestatic 112, 3) := by decide +kernel
theorem dX4_setShares_11 : decode cX4_setShares 11 = .ok (.ifCond .eq 30, 3) := by decide +kernel
theorem dX4_setShares_14 : decode cX4_setShares 14 = .ok (.iload_n 3, 1) := by decide +kernel
theorem dX4_setShares_15 : decode cX4_setShares 15 = .ok (.invokestatic 112, 3) := by decide +kernel
theorem dX4_setShares_18 : decode cX4_setShares 18 = .ok (.ifCond .eq 23, 3) := by decide +kernel
theorem dX4_setShares_21 : decode cX4_setShares 21 = .ok (.iload 4, 2) := by decide +kernel
theorem dX4_setShares_23 : decode cX4_setShares 23 = .ok (.invokestatic 112, 3) := by decide +kernel
theorem dX4_setShares_26 : decode cX4_setShares 26 = .ok (.ifCond .eq 15, 3) := by decide +kernel
theorem dX4_setShares_29 : decode cX4_setShares 29 = .ok (.iload 5, 2) := by decide +kernel
theorem dX4_setShares_31 : decode cX4_setShares 31 = .ok (.invokestatic 112, 3) := by decide +kernel
theorem dX4_setShares_34 : decode cX4_setShares 34 = .ok (.ifCond .eq 7, 3) := by decide +kernel
theorem dX4_setShares_37 : decode cX4_setShares 37 = .ok (.iconst 1, 1) := by decide +kernel
theorem dX4_setShares_38 : decode cX4_setShares 38 = .ok (.goto 4, 3) := by decide +kernel
theorem dX4_setShares_41 : decode cX4_setShares 41 = .ok (.iconst 0, 1) := by decide +kernel
theorem dX4_setShares_42 : decode cX4_setShares 42 = .ok (.istore 6, 2) := by decide +kernel
theorem dX4_setShares_44 : decode cX4_setShares 44 = .ok (.aload_n 0, 1) := by decide +kernel
theorem dX4_setShares_45 : decode cX4_setShares 45 = .ok (.iload 6, 2) := by decide +kernel
theorem dX4_setShares_47 : decode cX4_setShares 47 = .ok (.ifCond .eq 24, 3) := by decide +kernel
theorem dX4_setShares_50 : decode cX4_setShares 50 = .ok (.iload_n 1, 1) := by decide +kernel
theorem dX4_setShares_51 : decode cX4_setShares 51 = .ok (.iload_n 2, 1) := by decide +kernel
theorem dX4_setShares_52 : decode cX4_setShares 52 = .ok (.iadd, 1) := by decide +kernel
theorem dX4_setShares_53 : decode cX4_setShares 53 = .ok (.iload_n 3, 1) := by decide +kernel
theorem dX4_setShares_54 : decode cX4_setShares 54 = .ok (.iadd, 1) := by decide +kernel
theorem dX4_setShares_55 : decode cX4_setShares 55 = .ok (.iload 4, 2) := by decide +kernel
theorem dX4_setShares_57 : decode cX4_setShares 57 = .ok (.iadd, 1) := by decide +kernel
theorem dX4_setShares_58 : decode cX4_setShares 58 = .ok (.iload 5, 2) := by decide +kernel
theorem dX4_setShares_60 : decode cX4_setShares 60 = .ok (.iadd, 1) := by decide +kernel
theorem dX4_setShares_61 : decode cX4_setShares 61 = .ok (.sipush 10000, 3) := by decide +kernel
theorem dX4_setShares_64 : decode cX4_setShares 64 = .ok (.if_icmp .ne 7, 3) := by decide +kernel
theorem dX4_setShares_67 : decode cX4_setShares 67 = .ok (.iconst 1, 1) := by decide +kernel
theorem dX4_setShares_68 : decode cX4_setShares 68 = .ok (.goto 4, 3) := by decide +kernel
theorem dX4_setShares_71 : decode cX4_setShares 71 = .ok (.iconst 0, 1) := by decide +kernel
theorem dX4_setShares_72 : decode cX4_setShares 72 = .ok (.aload_n 0, 1) := by decide +kernel
theorem dX4_setShares_73 : decode cX4_setShares 73 = .ok (.getfield 80, 3) := by decide +kernel
theorem dX4_setShares_76 : decode cX4_setShares 76 = .ok (.ifCond .ne 7, 3) := by decide +kernel
theorem dX4_setShares_79 : decode cX4_setShares 79 = .ok (.iconst 1, 1) := by decide +kernel
theorem dX4_setShares_80 : decode cX4_setShares 80 = .ok (.goto 4, 3) := by decide +kernel
theorem dX4_setShares_83 : decode cX4_setShares 83 = .ok (.iconst 0, 1) := by decide +kernel
theorem dX4_setShares_84 : decode cX4_setShares 84 = .ok (.iconst 1, 1) := by decide +kernel
theorem dX4_setShares_85 : decode cX4_setShares 85 = .ok (.invokevirtual 116, 3) := by decide +kernel
theorem dX4_setShares_88 : decode cX4_setShares 88 = .ok (.ifCond .eq 40, 3) := by decide +kernel
theorem dX4_setShares_91 : decode cX4_setShares 91 = .ok (.aload_n 0, 1) := by decide +kernel
theorem dX4_setShares_92 : decode cX4_setShares 92 = .ok (.getfield 7, 3) := by decide +kernel
theorem dX4_setShares_95 : decode cX4_setShares 95 = .ok (.iconst 0, 1) := by decide +kernel
theorem dX4_setShares_96 : decode cX4_setShares 96 = .ok (.iload_n 1, 1) := by decide +kernel
theorem dX4_setShares_97 : decode cX4_setShares 97 = .ok (.iastore, 1) := by decide +kernel
theorem dX4_setShares_98 : decode cX4_setShares 98 = .ok (.aload_n 0, 1) := by decide +kernel
theorem dX4_setShares_99 : decode cX4_setShares 99 = .ok (.getfield 7, 3) := by decide +kernel
theorem dX4_setShares_102 : decode cX4_setShares 102 = .ok (.iconst 1, 1) := by decide +kernel
theorem dX4_setShares_103 : decode cX4_setShares 103 = .ok (.iload_n 2, 1) := by decide +kernel
theorem dX4_setShares_104 : decode cX4_setShares 104 = .ok (.iastore, 1) := by decide +kernel
theorem dX4_setShares_105 : decode cX4_setShares 105 = .ok (.aload_n 0, 1) := by decide +kernel
theorem dX4_setShares_106 : decode cX4_setShares 106 = .ok (.getfield 7, 3) := by decide +kernel
theorem dX4_setShares_109 : decode cX4_setShares 109 = .ok (.iconst 2, 1) := by decide +kernel
theorem dX4_setShares_110 : decode cX4_setShares 110 = .ok (.iload_n 3, 1) := by decide +kernel
theorem dX4_setShares_111 : decode cX4_setShares 111 = .ok (.iastore, 1) := by decide +kernel
theorem dX4_setShares_112 : decode cX4_setShares 112 = .ok (.aload_n 0, 1) := by decide +kernel
theorem dX4_setShares_113 : decode cX4_setShares 113 = .ok (.getfield 7, 3) := by decide +kernel
theorem dX4_setShares_116 : decode cX4_setShares 116 = .ok (.iconst 3, 1) := by decide +kernel
theorem dX4_setShares_117 : decode cX4_setShares 117 = .ok (.iload 4, 2) := by decide +kernel
theorem dX4_setShares_119 : decode cX4_setShares 119 = .ok (.iastore, 1) := by decide +kernel
theorem dX4_setShares_120 : decode cX4_setShares 120 = .ok (.aload_n 0, 1) := by decide +kernel
theorem dX4_setShares_121 : decode cX4_setShares 121 = .ok (.getfield 7, 3) := by decide +kernel
theorem dX4_setShares_124 : decode cX4_setShares 124 = .ok (.iconst 4, 1) := by decide +kernel
theorem dX4_setShares_125 : decode cX4_setShares 125 = .ok (.iload 5, 2) := by decide +kernel
theorem dX4_setShares_127 : decode cX4_setShares 127 = .ok (.iastore, 1) := by decide +kernel
theorem dX4_setShares_128 : decode cX4_setShares 128 = .ok (.return_, 1) := by decide +kernel
set_option maxRecDepth 20000 in
theorem ggX4_setPenalty_X4_within : GoodIn wsX4_setPenalty wsX4_within := goodIn_r _ [5] (by decide +kernel) (by decide +kernel)
set_option maxRecDepth 20000 in
theorem gX4_setPenalty_X4_within : GoodIn wsX4_setPenalty (va_wsS RX4 76 yX4_within wsX4_within) := goodIn_app (goodIn_of _ (by decide +kernel)) ggX4_setPenalty_X4_within
set_option maxRecDepth 20000 in
theorem ggX4_setPenalty_X4_goes : GoodIn wsX4_setPenalty wsX4_goes := goodIn_r _ [9, 10, 11, 12, 13, 14, 15, 16, 17, 18, 19, 20, 21, 22, 23, 24, 25, 26, 27, 28, 29, 30, 31, 32, 33, 34, 35] (by decide +kernel) (by decide +kernel)
set_option maxRecDepth 20000 in
theorem gX4_setPenalty_X4_goes : GoodIn wsX4_setPenalty (wsV RX4 116 RX4 yX4_goes wsX4_goes) := goodIn_app (goodIn_of _ (by decide +kernel)) ggX4_setPenalty_X4_goes
theorem dX4_setPenalty_0 : decode cX4_setPenalty 0 = .ok (.aload_n 0, 1) := by decide +kernel
theorem dX4_setPenalty_1 : decode cX4_setPenalty 1 = .ok (.iload_n 1, 1) := by decide +kernel
theorem dX4_setPenalty_2 : decode cX4_setPenalty 2 = .ok (.bipush 100, 2) := by decide +kernel
theorem dX4_setPenalty_4 : decode cX4_setPenalty 4 = .ok (.sipush 1000, 3) := by decide +kernel
theorem dX4_setPenalty_7 : decode cX4_setPenalty 7 = .ok (.invokestatic 76, 3) := by decide +kernel
theorem dX4_setPenalty_10 : decode cX4_setPenalty 10 = .ok (.iconst 1, 1) := by decide +kernel
theorem dX4_setPenalty_11 : decode cX4_setPenalty 11 = .ok (.iconst 1, 1) := by decide +kernel
theorem dX4_setPenalty_12 : decode cX4_setPenalty 12 = .ok (.invokevirtual 116, 3) := by decide +kernel
theorem dX4_setPenalty_15 : decode cX4_setPenalty 15 = .ok (.ifCond .ne 5, 3) := by decide +kernel
theorem dX4_setPenalty_18 : decode cX4_setPenalty 18 = .ok (.iconst 0, 1) := by decide +kernel
theorem dX4_setPenalty_19 : decode cX4_setPenalty 19 = .ok (.ireturn, 1) := by decide +kernel
theorem dX4_setPenalty_20 : decode cX4_setPenalty 20 = .ok (.aload_n 0, 1) := by decide +kernel
theorem dX4_setPenalty_21 : decode cX4_setPenalty 21 = .ok (.getfield 13, 3) := by decide +kernel
theorem dX4_setPenalty_24 : decode cX4_setPenalty 24 = .ok (.istore_n 2, 1) := by decide +kernel
theorem dX4_setPenalty_25 : decode cX4_setPenalty 25 = .ok (.aload_n 0, 1) := by decide +kernel
theorem dX4_setPenalty_26 : decode cX4_setPenalty 26 = .ok (.iload_n 1, 1) := by decide +kernel
theorem dX4_setPenalty_27 : decode cX4_setPenalty 27 = .ok (.putfield 13, 3) := by decide +kernel
theorem dX4_setPenalty_30 : decode cX4_setPenalty 30 = .ok (.iload_n 2, 1) := by decide +kernel
theorem dX4_setPenalty_31 : decode cX4_setPenalty 31 = .ok (.ireturn, 1) := by decide +kernel
set_option maxRecDepth 20000 in
theorem ggX4_setOverhead_X4_within : GoodIn wsX4_setOverhead wsX4_within := goodIn_r _ [6] (by decide +kernel) (by decide +kernel)
set_option maxRecDepth 20000 in
theorem gX4_setOverhead_X4_within : GoodIn wsX4_setOverhead (va_wsS RX4 76 yX4_within wsX4_within) := goodIn_app (goodIn_of _ (by decide +kernel)) ggX4_setOverhead_X4_within
set_option maxRecDepth 20000 in
theorem ggX4_setOverhead_X4_goes : GoodIn wsX4_setOverhead wsX4_goes := goodIn_r _ [10, 11, 12, 13, 14, 15, 16, 17, 18, 19, 20, 21, 22, 23, 24, 25, 26, 27, 28, 29, 30, 31, 32, 33, 34, 35, 36] (by decide +kernel) (by decide +kernel)
set_option maxRecDepth 20000 in
theorem gX4_setOverhead_X4_goes : GoodIn wsX4_setOverhead (wsV RX4 116 RX4 yX4_goes wsX4_goes) := goodIn_app (goodIn_of _ (by decide +kernel)) ggX4_setOverhead_X4_goes
theorem dX4_setOverhead_0 : decode cX4_setOverhead 0 = .ok (.aload_n 0, 1) := by decide +kernel
theorem dX4_setOverhead_1 : decode cX4_setOverhead 1 = .ok (.iload_n 1, 1) := by decide +kernel
theorem dX4_setOverhead_2 : decode cX4_setOverhead 2 = .ok (.iconst 0, 1) := by decide +kernel
theorem dX4_setOverhead_3 : decode cX4_setOverhead 3 = .ok (.ldc 120, 2) := by decide +kernel
theorem dX4_setOverhead_5 : decode cX4_setOverhead 5 = .ok (.invokestatic 76, 3) := by decide +kernel
theorem dX4_setOverhead_8 : decode cX4_setOverhead 8 = .ok (.iconst 1, 1) := by decide +kernel
theorem dX4_setOverhead_9 : decode cX4_setOverhead 9 = .ok (.iconst 1, 1) := by decide +kernel
theorem dX4_setOverhead_10 : decode cX4_setOverhead 10 = .ok (.invokevirtual 116, 3) := by decide +kernel
theorem dX4_setOverhead_13 : decode cX4_setOverhead 13 = .ok (.ifCond .ne 5, 3) := by decide +kernel
theorem dX4_setOverhead_16 : decode cX4_setOverhead 16 = .ok (.iconst 0, 1) := by decide +kernel
theorem dX4_setOverhead_17 : decode cX4_setOverhead 17 = .ok (.ireturn, 1) := by decide +kernel
theorem dX4_setOverhead_18 : decode cX4_setOverhead 18 = .ok (.aload_n 0, 1) := by decide +kernel
theorem dX4_setOverhead_19 : decode cX4_setOverhead 19 = .ok (.getfield 121, 3) := by decide +kernel
theorem dX4_setOverhead_22 : decode cX4_setOverhead 22 = .ok (.istore_n 2, 1) := by decide +kernel
theorem dX4_setOverhead_23 : decode cX4_setOverhead 23 = .ok (.aload_n 0, 1) := by decide +kernel
theorem dX4_setOverhead_24 : decode cX4_setOverhead 24 = .ok (.iload_n 1, 1) := by decide +kernel
theorem dX4_setOverhead_25 : decode cX4_setOverhead 25 = .ok (.putfield 121, 3) := by decide +kernel
theorem dX4_setOverhead_28 : decode cX4_setOverhead 28 = .ok (.iload_n 2, 1) := by decide +kernel
theorem dX4_setOverhead_29 : decode cX4_setOverhead 29 = .ok (.ireturn, 1) := by decide +kernel
set_option maxRecDepth 20000 in
theorem ggX4_addWell_X4_goes : GoodIn wsX4_addWell wsX4_goes := goodIn_r _ [8, 9, 10, 11, 12, 13, 14, 15, 16, 17, 18, 19, 20, 21, 22, 23, 24, 25, 26, 27, 28, 29, 30, 31, 32, 33, 34] (by decide +kernel) (by decide +kernel)
set_option maxRecDepth 20000 in
theorem gX4_addWell_X4_goes : GoodIn wsX4_addWell (wsV RX4 116 RX4 yX4_goes wsX4_goes) := goodIn_app (goodIn_of _ (by decide +kernel)) ggX4_addWell_X4_goes
theorem dX4_addWell_0 : decode cX4_addWell 0 = .ok (.aload_n 0, 1) := by decide +kernel
theorem dX4_addWell_1 : decode cX4_addWell 1 = .ok (.aload_n 0, 1) := by decide +kernel
theorem dX4_addWell_2 : decode cX4_addWell 2 = .ok (.getfield 80, 3) := by decide +kernel
theorem dX4_addWell_5 : decode cX4_addWell 5 = .ok (.bipush 6, 2) := by decide +kernel
theorem dX4_addWell_7 : decode cX4_addWell 7 = .ok (.if_icmp .ge 7, 3) := by decide +kernel
theorem dX4_addWell_10 : decode cX4_addWell 10 = .ok (.iconst 1, 1) := by decide +kernel
theorem dX4_addWell_11 : decode cX4_addWell 11 = .ok (.goto 4, 3) := by decide +kernel
theorem dX4_addWell_14 : decode cX4_addWell 14 = .ok (.iconst 0, 1) := by decide +kernel
theorem dX4_addWell_15 : decode cX4_addWell 15 = .ok (.iconst 1, 1) := by decide +kernel
theorem dX4_addWell_16 : decode cX4_addWell 16 = .ok (.iconst 1, 1) := by decide +kernel
theorem dX4_addWell_17 : decode cX4_addWell 17 = .ok (.invokevirtual 116, 3) := by decide +kernel
theorem dX4_addWell_20 : decode cX4_addWell 20 = .ok (.ifCond .ne 5, 3) := by decide +kernel
theorem dX4_addWell_23 : decode cX4_addWell 23 = .ok (.iconst 0, 1) := by decide +kernel
theorem dX4_addWell_24 : decode cX4_addWell 24 = .ok (.ireturn, 1) := by decide +kernel
theorem dX4_addWell_25 : decode cX4_addWell 25 = .ok (.aload_n 0, 1) := by decide +kernel
theorem dX4_addWell_26 : decode cX4_addWell 26 = .ok (.getfield 17, 3) := by decide +kernel
theorem dX4_addWell_29 : decode cX4_addWell 29 = .ok (.aload_n 0, 1) := by decide +kernel
theorem dX4_addWell_30 : decode cX4_addWell 30 = .ok (.getfield 80, 3) := by decide +kernel
theorem dX4_addWell_33 : decode cX4_addWell 33 = .ok (.aload_n 0, 1) := by decide +kernel
theorem dX4_addWell_34 : decode cX4_addWell 34 = .ok (.getfield 13, 3) := by decide +kernel
theorem dX4_addWell_37 : decode cX4_addWell 37 = .ok (.iastore, 1) := by decide +kernel
theorem dX4_addWell_38 : decode cX4_addWell 38 = .ok (.aload_n 0, 1) := by decide +kernel
theorem dX4_addWell_39 : decode cX4_addWell 39 = .ok (.dup, 1) := by decide +kernel
theorem dX4_addWell_40 : decode cX4_addWell 40 = .ok (.getfield 80, 3) := by decide +kernel
theorem dX4_addWell_43 : decode cX4_addWell 43 = .ok (.iconst 1, 1) := by decide +kernel
theorem dX4_addWell_44 : decode cX4_addWell 44 = .ok (.iadd, 1) := by decide +kernel
theorem dX4_addWell_45 : decode cX4_addWell 45 = .ok (.putfield 80, 3) := by decide +kernel
theorem dX4_addWell_48 : decode cX4_addWell 48 = .ok (.aload_n 0, 1) := by decide +kernel
theorem dX4_addWell_49 : decode cX4_addWell 49 = .ok (.getfield 80, 3) := by decide +kernel
theorem dX4_addWell_52 : decode cX4_addWell 52 = .ok (.iconst 1, 1) := by decide +kernel
theorem dX4_addWell_53 : decode cX4_addWell 53 = .ok (.isub, 1) := by decide +kernel
theorem dX4_addWell_54 : decode cX4_addWell 54 = .ok (.ireturn, 1) := by decide +kernel
theorem dX4_hasOthers_0 : decode cX4_hasOthers 0 = .ok (.iconst 0, 1) := by decide +kernel
theorem dX4_hasOthers_1 : decode cX4_hasOthers 1 = .ok (.istore_n 3, 1) := by decide +kernel
theorem dX4_hasOthers_2 : decode cX4_hasOthers 2 = .ok (.iconst 0, 1) := by decide +kernel
theorem dX4_hasOthers_3 : decode cX4_hasOthers 3 = .ok (.istore 4, 2) := by decide +kernel
theorem dX4_hasOthers_5 : decode cX4_hasOthers 5 = .ok (.iload 4, 2) := by decide +kernel
theorem dX4_hasOthers_7 : decode cX4_hasOthers 7 = .ok (.iconst 5, 1) := by decide +kernel
theorem dX4_hasOthers_8 : decode cX4_hasOthers 8 = .ok (.if_icmp .ge 49, 3) := by decide +kernel
theorem dX4_hasOthers_11 : decode cX4_hasOthers 11 = .ok (.iload_n 3, 1) := by decide +kernel
theorem dX4_hasOthers_12 : decode cX4_hasOthers 12 = .ok (.ifCond .ne 33, 3) := by decide +kernel
theorem dX4_hasOthers_15 : decode cX4_hasOthers 15 = .ok (.iload 4, 2) := by decide +kernel
theorem dX4_hasOthers_17 : decode cX4_hasOthers 17 = .ok (.iload_n 2, 1) := by decide +kernel
theorem dX4_hasOthers_18 : decode cX4_hasOthers 18 = .ok (.if_icmp .eq 31, 3) := by decide +kernel
theorem dX4_hasOthers_21 : decode cX4_hasOthers 21 = .ok (.aload_n 0, 1) := by decide +kernel
theorem dX4_hasOthers_22 : decode cX4_hasOthers 22 = .ok (.getfield 7, 3) := by decide +kernel
theorem dX4_hasOthers_25 : decode cX4_hasOthers 25 = .ok (.iload 4, 2) := by decide +kernel
theorem dX4_hasOthers_27 : decode cX4_hasOthers 27 = .ok (.iaload, 1) := by decide +kernel
theorem dX4_hasOthers_28 : decode cX4_hasOthers 28 = .ok (.ifCond .le 21, 3) := by decide +kernel
theorem dX4_hasOthers_31 : decode cX4_hasOthers 31 = .ok (.aload_n 0, 1) := by decide +kernel
theorem dX4_hasOthers_32 : decode cX4_hasOthers 32 = .ok (.getfield 24, 3) := by decide +kernel
theorem dX4_hasOthers_35 : decode cX4_hasOthers 35 = .ok (.iconst 5, 1) := by decide +kernel
theorem dX4_hasOthers_36 : decode cX4_hasOthers 36 = .ok (.iload_n 1, 1) := by decide +kernel
theorem dX4_hasOthers_37 : decode cX4_hasOthers 37 = .ok (.imul, 1) := by decide +kernel
theorem dX4_hasOthers_38 : decode cX4_hasOthers 38 = .ok (.iload 4, 2) := by decide +kernel
theorem dX4_hasOthers_40 : decode cX4_hasOthers 40 = .ok (.iadd, 1) := by decide +kernel
theorem dX4_hasOthers_41 : decode cX4_hasOthers 41 = .ok (.baload, 1) := by decide +kernel
theorem dX4_hasOthers_42 : decode cX4_hasOthers 42 = .ok (.ifCond .ne 7, 3) := by decide +kernel
theorem dX4_hasOthers_45 : decode cX4_hasOthers 45 = .ok (.iconst 1, 1) := by decide +kernel
theorem dX4_hasOthers_46 : decode cX4_hasOthers 46 = .ok (.goto 4, 3) := by decide +kernel
theorem dX4_hasOthers_49 : decode cX4_hasOthers 49 = .ok (.iconst 0, 1) := by decide +kernel
theorem dX4_hasOthers_50 : decode cX4_hasOthers 50 = .ok (.istore_n 3, 1) := by decide +kernel
theorem dX4_hasOthers_51 : decode cX4_hasOthers 51 = .ok (.iinc 4 1, 3) := by decide +kernel
theorem dX4_hasOthers_54 : decode cX4_hasOthers 54 = .ok (.goto (-49), 3) := by decide +kernel
theorem dX4_hasOthers_57 : decode cX4_hasOthers 57 = .ok (.iload_n 3, 1) := by decide +kernel
theorem dX4_hasOthers_58 : decode cX4_hasOthers 58 = .ok (.ireturn, 1) := by decide +kernel
set_option maxRecDepth 20000 in
theorem ggX4_elect_X4_isWell : GoodIn wsX4_elect wsX4_isWell := goodIn_r _ [8, 9, 10, 11, 7, 12, 25, 26, 27, 28, 29, 30, 31, 32, 33, 34, 35, 36, 37, 38, 39, 40, 41, 42, 43, 44, 45, 46, 47, 48, 49] (by decide +kernel) (by decide +kernel)
set_option maxRecDepth 20000 in
theorem gX4_elect_X4_isWell : GoodIn wsX4_elect (wsV RX4 124 RX4 yX4_isWell wsX4_isWell) := goodIn_app (goodIn_of _ (by decide +kernel)) ggX4_elect_X4_isWell
set_option maxRecDepth 20000 in
theorem ggX4_elect_X4_isPartner : GoodIn wsX4_elect wsX4_isPartner := goodIn_r _ [15, 10, 11, 7, 12] (by decide +kernel) (by decide +kernel)
set_option maxRecDepth 20000 in
theorem gX4_elect_X4_isPartner : GoodIn wsX4_elect (va_wsS RX4 127 yX4_isPartner wsX4_isPartner) := goodIn_app (goodIn_of _ (by decide +kernel)) ggX4_elect_X4_isPartner
set_option maxRecDepth 20000 in
theorem ggX4_elect_X4_hasOthers : GoodIn wsX4_elect wsX4_hasOthers := goodIn_r _ [19, 2, 3, 25, 26, 27, 28, 29, 30, 31, 32, 33, 34, 35, 36, 37, 38, 39, 40, 41, 42, 43, 44, 45, 46, 47, 48, 49] (by decide +kernel) (by decide +kernel)
set_option maxRecDepth 20000 in
theorem gX4_elect_X4_hasOthers : GoodIn wsX4_elect (wsV RX4 130 RX4 yX4_hasOthers wsX4_hasOthers) := goodIn_app (goodIn_of _ (by decide +kernel)) ggX4_elect_X4_hasOthers
set_option maxRecDepth 20000 in
theorem ggX4_elect_X4_goes : GoodIn wsX4_elect wsX4_goes := goodIn_r _ [23, 24, 25, 26, 27, 28, 29, 30, 31, 32, 33, 34, 35, 36, 37, 38, 39, 40, 41, 42, 43, 44, 45, 46, 47, 48, 49] (by decide +kernel) (by decide +kernel)
set_option maxRecDepth 20000 in
theorem gX4_elect_X4_goes : GoodIn wsX4_elect (wsV RX4 116 RX4 yX4_goes wsX4_goes) := goodIn_app (goodIn_of _ (by decide +kernel)) ggX4_elect_X4_goes
theorem dX4_elect_0 : decode cX4_elect 0 = .ok (.aload_n 0, 1) := by decide +kernel
theorem dX4_elect_1 : decode cX4_elect 1 = .ok (.iload_n 1, 1) := by decide +kernel
theorem dX4_elect_2 : decode cX4_elect 2 = .ok (.invokevirtual 124, 3) := by decide +kernel
theorem dX4_elect_5 : decode cX4_elect 5 = .ok (.ifCond .eq 14, 3) := by decide +kernel
theorem dX4_elect_8 : decode cX4_elect 8 = .ok (.iload_n 2, 1) := by decide +kernel
theorem dX4_elect_9 : decode cX4_elect 9 = .ok (.invokestatic 127, 3) := by decide +kernel
theorem dX4_elect_12 : decode cX4_elect 12 = .ok (.ifCond .eq 7, 3) := by decide +kernel
theorem dX4_elect_15 : decode cX4_elect 15 = .ok (.iconst 1, 1) := by decide +kernel
theorem dX4_elect_16 : decode cX4_elect 16 = .ok (.goto 4, 3) := by decide +kernel
theorem dX4_elect_19 : decode cX4_elect 19 = .ok (.iconst 0, 1) := by decide +kernel
theorem dX4_elect_20 : decode cX4_elect 20 = .ok (.istore 4, 2) := by decide +kernel
theorem dX4_elect_22 : decode cX4_elect 22 = .ok (.iload 4, 2) := by decide +kernel
theorem dX4_elect_24 : decode cX4_elect 24 = .ok (.ifCond .eq 38, 3) := by decide +kernel
theorem dX4_elect_27 : decode cX4_elect 27 = .ok (.aload_n 0, 1) := by decide +kernel
theorem dX4_elect_28 : decode cX4_elect 28 = .ok (.getfield 20, 3) := by decide +kernel
theorem dX4_elect_31 : decode cX4_elect 31 = .ok (.iload_n 1, 1) := by decide +kernel
theorem dX4_elect_32 : decode cX4_elect 32 = .ok (.baload, 1) := by decide +kernel
theorem dX4_elect_33 : decode cX4_elect 33 = .ok (.ifCond .ne 29, 3) := by decide +kernel
theorem dX4_elect_36 : decode cX4_elect 36 = .ok (.aload_n 0, 1) := by decide +kernel
theorem dX4_elect_37 : decode cX4_elect 37 = .ok (.getfield 7, 3) := by decide +kernel
theorem dX4_elect_40 : decode cX4_elect 40 = .ok (.iload_n 2, 1) := by decide +kernel
theorem dX4_elect_41 : decode cX4_elect 41 = .ok (.iaload, 1) := by decide +kernel
theorem dX4_elect_42 : decode cX4_elect 42 = .ok (.ifCond .le 20, 3) := by decide +kernel
theorem dX4_elect_45 : decode cX4_elect 45 = .ok (.iload_n 3, 1) := by decide +kernel
theorem dX4_elect_46 : decode cX4_elect 46 = .ok (.ifCond .ne 12, 3) := by decide +kernel
theorem dX4_elect_49 : decode cX4_elect 49 = .ok (.aload_n 0, 1) := by decide +kernel
theorem dX4_elect_50 : decode cX4_elect 50 = .ok (.iload_n 1, 1) := by decide +kernel
theorem dX4_elect_51 : decode cX4_elect 51 = .ok (.iload_n 2, 1) := by decide +kernel
theorem dX4_elect_52 : decode cX4_elect 52 = .ok (.invokevirtual 130, 3) := by decide +kernel
theorem dX4_elect_55 : decode cX4_elect 55 = .ok (.ifCond .eq 7, 3) := by decide +kernel
theorem dX4_elect_58 : decode cX4_elect 58 = .ok (.iconst 1, 1) := by decide +kernel
theorem dX4_elect_59 : decode cX4_elect 59 = .ok (.goto 4, 3) := by decide +kernel
theorem dX4_elect_62 : decode cX4_elect 62 = .ok (.iconst 0, 1) := by decide +kernel
theorem dX4_elect_63 : decode cX4_elect 63 = .ok (.istore 5, 2) := by decide +kernel
theorem dX4_elect_65 : decode cX4_elect 65 = .ok (.aload_n 0, 1) := by decide +kernel
theorem dX4_elect_66 : decode cX4_elect 66 = .ok (.iload 4, 2) := by decide +kernel
theorem dX4_elect_68 : decode cX4_elect 68 = .ok (.iload 5, 2) := by decide +kernel
theorem dX4_elect_70 : decode cX4_elect 70 = .ok (.iconst 1, 1) := by decide +kernel
theorem dX4_elect_71 : decode cX4_elect 71 = .ok (.invokevirtual 116, 3) := by decide +kernel
theorem dX4_elect_74 : decode cX4_elect 74 = .ok (.ifCond .ne 5, 3) := by decide +kernel
theorem dX4_elect_77 : decode cX4_elect 77 = .ok (.iconst 0, 1) := by decide +kernel
theorem dX4_elect_78 : decode cX4_elect 78 = .ok (.ireturn, 1) := by decide +kernel
theorem dX4_elect_79 : decode cX4_elect 79 = .ok (.aload_n 0, 1) := by decide +kernel
theorem dX4_elect_80 : decode cX4_elect 80 = .ok (.getfield 24, 3) := by decide +kernel
theorem dX4_elect_83 : decode cX4_elect 83 = .ok (.iconst 5, 1) := by decide +kernel
theorem dX4_elect_84 : decode cX4_elect 84 = .ok (.iload_n 1, 1) := by decide +kernel
theorem dX4_elect_85 : decode cX4_elect 85 = .ok (.imul, 1) := by decide +kernel
theorem dX4_elect_86 : decode cX4_elect 86 = .ok (.iload_n 2, 1) := by decide +kernel
theorem dX4_elect_87 : decode cX4_elect 87 = .ok (.iadd, 1) := by decide +kernel
theorem dX4_elect_88 : decode cX4_elect 88 = .ok (.baload, 1) := by decide +kernel
theorem dX4_elect_89 : decode cX4_elect 89 = .ok (.ifCond .ne 7, 3) := by decide +kernel
theorem dX4_elect_92 : decode cX4_elect 92 = .ok (.iconst 1, 1) := by decide +kernel
theorem dX4_elect_93 : decode cX4_elect 93 = .ok (.goto 4, 3) := by decide +kernel
theorem dX4_elect_96 : decode cX4_elect 96 = .ok (.iconst 0, 1) := by decide +kernel
theorem dX4_elect_97 : decode cX4_elect 97 = .ok (.istore 6, 2) := by decide +kernel
theorem dX4_elect_99 : decode cX4_elect 99 = .ok (.aload_n 0, 1) := by decide +kernel
theorem dX4_elect_100 : decode cX4_elect 100 = .ok (.getfield 24, 3) := by decide +kernel
theorem dX4_elect_103 : decode cX4_elect 103 = .ok (.iconst 5, 1) := by decide +kernel
theorem dX4_elect_104 : decode cX4_elect 104 = .ok (.iload_n 1, 1) := by decide +kernel
theorem dX4_elect_105 : decode cX4_elect 105 = .ok (.imul, 1) := by decide +kernel
theorem dX4_elect_106 : decode cX4_elect 106 = .ok (.iload_n 2, 1) := by decide +kernel
theorem dX4_elect_107 : decode cX4_elect 107 = .ok (.iadd, 1) := by decide +kernel
theorem dX4_elect_108 : decode cX4_elect 108 = .ok (.iload_n 3, 1) := by decide +kernel
theorem dX4_elect_109 : decode cX4_elect 109 = .ok (.ifCond .ne 7, 3) := by decide +kernel
theorem dX4_elect_112 : decode cX4_elect 112 = .ok (.iconst 1, 1) := by decide +kernel
theorem dX4_elect_113 : decode cX4_elect 113 = .ok (.goto 4, 3) := by decide +kernel
theorem dX4_elect_116 : decode cX4_elect 116 = .ok (.iconst 0, 1) := by decide +kernel
theorem dX4_elect_117 : decode cX4_elect 117 = .ok (.bastore, 1) := by decide +kernel
theorem dX4_elect_118 : decode cX4_elect 118 = .ok (.iload 6, 2) := by decide +kernel
theorem dX4_elect_120 : decode cX4_elect 120 = .ok (.ireturn, 1) := by decide +kernel
theorem dX4_enters_0 : decode cX4_enters 0 = .ok (.aload_n 0, 1) := by decide +kernel
theorem dX4_enters_1 : decode cX4_enters 1 = .ok (.getfield 27, 3) := by decide +kernel
theorem dX4_enters_4 : decode cX4_enters 4 = .ok (.aload_n 0, 1) := by decide +kernel
theorem dX4_enters_5 : decode cX4_enters 5 = .ok (.getfield 83, 3) := by decide +kernel
theorem dX4_enters_8 : decode cX4_enters 8 = .ok (.iload_n 1, 1) := by decide +kernel
theorem dX4_enters_9 : decode cX4_enters 9 = .ok (.iastore, 1) := by decide +kernel
theorem dX4_enters_10 : decode cX4_enters 10 = .ok (.aload_n 0, 1) := by decide +kernel
theorem dX4_enters_11 : decode cX4_enters 11 = .ok (.getfield 30, 3) := by decide +kernel
theorem dX4_enters_14 : decode cX4_enters 14 = .ok (.aload_n 0, 1) := by decide +kernel
theorem dX4_enters_15 : decode cX4_enters 15 = .ok (.getfield 83, 3) := by decide +kernel
theorem dX4_enters_18 : decode cX4_enters 18 = .ok (.iload_n 2, 1) := by decide +kernel
theorem dX4_enters_19 : decode cX4_enters 19 = .ok (.iastore, 1) := by decide +kernel
theorem dX4_enters_20 : decode cX4_enters 20 = .ok (.aload_n 0, 1) := by decide +kernel
theorem dX4_enters_21 : decode cX4_enters 21 = .ok (.getfield 33, 3) := by decide +kernel
theorem dX4_enters_24 : decode cX4_enters 24 = .ok (.aload_n 0, 1) := by decide +kernel
theorem dX4_enters_25 : decode cX4_enters 25 = .ok (.getfield 83, 3) := by decide +kernel
theorem dX4_enters_28 : decode cX4_enters 28 = .ok (.iload_n 3, 1) := by decide +kernel
theorem dX4_enters_29 : decode cX4_enters 29 = .ok (.bastore, 1) := by decide +kernel
theorem dX4_enters_30 : decode cX4_enters 30 = .ok (.aload_n 0, 1) := by decide +kernel
theorem dX4_enters_31 : decode cX4_enters 31 = .ok (.getfield 20, 3) := by decide +kernel
theorem dX4_enters_34 : decode cX4_enters 34 = .ok (.iload_n 1, 1) := by decide +kernel
theorem dX4_enters_35 : decode cX4_enters 35 = .ok (.iconst 1, 1) := by decide +kernel
theorem dX4_enters_36 : decode cX4_enters 36 = .ok (.bastore, 1) := by decide +kernel
theorem dX4_enters_37 : decode cX4_enters 37 = .ok (.aload_n 0, 1) := by decide +kernel
theorem dX4_enters_38 : decode cX4_enters 38 = .ok (.dup, 1) := by decide +kernel
theorem dX4_enters_39 : decode cX4_enters 39 = .ok (.getfield 83, 3) := by decide +kernel
theorem dX4_enters_42 : decode cX4_enters 42 = .ok (.iconst 1, 1) := by decide +kernel
theorem dX4_enters_43 : decode cX4_enters 43 = .ok (.iadd, 1) := by decide +kernel
theorem dX4_enters_44 : decode cX4_enters 44 = .ok (.putfield 83, 3) := by decide +kernel
theorem dX4_enters_47 : decode cX4_enters 47 = .ok (.aload_n 0, 1) := by decide +kernel
theorem dX4_enters_48 : decode cX4_enters 48 = .ok (.getfield 83, 3) := by decide +kernel
theorem dX4_enters_51 : decode cX4_enters 51 = .ok (.iconst 1, 1) := by decide +kernel
theorem dX4_enters_52 : decode cX4_enters 52 = .ok (.isub, 1) := by decide +kernel
theorem dX4_enters_53 : decode cX4_enters 53 = .ok (.ireturn, 1) := by decide +kernel
set_option maxRecDepth 20000 in
theorem ggX4_cost_X4_isWell : GoodIn wsX4_cost wsX4_isWell := goodIn_r _ [6, 7, 8, 9, 5, 10, 28, 29, 30, 31, 32, 33, 34, 35, 36, 37, 38, 39, 40, 41, 42, 43, 44, 45, 46, 47, 48, 49, 50, 51, 52] (by decide +kernel) (by decide +kernel)
set_option maxRecDepth 20000 in
theorem gX4_cost_X4_isWell : GoodIn wsX4_cost (wsV RX4 124 RX4 yX4_isWell wsX4_isWell) := goodIn_app (goodIn_of _ (by decide +kernel)) ggX4_cost_X4_isWell
set_option maxRecDepth 20000 in
theorem ggX4_cost_X4_isAmount : GoodIn wsX4_cost wsX4_isAmount := goodIn_r _ [13, 14, 8, 9, 5, 10] (by decide +kernel) (by decide +kernel)
set_option maxRecDepth 20000 in
theorem gX4_cost_X4_isAmount : GoodIn wsX4_cost (va_wsS RX4 134 yX4_isAmount wsX4_isAmount) := goodIn_app (goodIn_of _ (by decide +kernel)) ggX4_cost_X4_isAmount
set_option maxRecDepth 20000 in
theorem ggX4_cost_X4_goes : GoodIn wsX4_cost wsX4_goes := goodIn_r _ [18, 19, 28, 29, 30, 31, 32, 33, 34, 35, 36, 37, 38, 39, 40, 41, 42, 43, 44, 45, 46, 47, 48, 49, 50, 51, 52] (by decide +kernel) (by decide +kernel)
set_option maxRecDepth 20000 in
theorem gX4_cost_X4_goes : GoodIn wsX4_cost (wsV RX4 116 RX4 yX4_goes wsX4_goes) := goodIn_app (goodIn_of _ (by decide +kernel)) ggX4_cost_X4_goes
set_option maxRecDepth 20000 in
theorem ggX4_cost_X4_enters : GoodIn wsX4_cost wsX4_enters := goodIn_r _ [23, 24, 1, 25, 26, 27, 28, 29, 30, 31, 32, 33, 34, 35, 36, 37, 38, 39, 40, 41, 42, 43, 44, 45, 46, 47, 48, 49, 50, 51, 52] (by decide +kernel) (by decide +kernel)
set_option maxRecDepth 20000 in
theorem gX4_cost_X4_enters : GoodIn wsX4_cost (wsV RX4 137 RX4 yX4_enters wsX4_enters) := goodIn_app (goodIn_of _ (by decide +kernel)) ggX4_cost_X4_enters
theorem dX4_cost_0 : decode cX4_cost 0 = .ok (.aload_n 0, 1) := by decide +kernel
theorem dX4_cost_1 : decode cX4_cost 1 = .ok (.aload_n 0, 1) := by decide +kernel
theorem dX4_cost_2 : decode cX4_cost 2 = .ok (.iload_n 1, 1) := by decide +kernel
theorem dX4_cost_3 : decode cX4_cost 3 = .ok (.invokevirtual 124, 3) := by decide +kernel
theorem dX4_cost_6 : decode cX4_cost 6 = .ok (.iload_n 2, 1) := by decide +kernel
theorem dX4_cost_7 : decode cX4_cost 7 = .ok (.invokestatic 134, 3) := by decide +kernel
theorem dX4_cost_10 : decode cX4_cost 10 = .ok (.aload_n 0, 1) := by decide +kernel
theorem dX4_cost_11 : decode cX4_cost 11 = .ok (.getfield 83, 3) := by decide +kernel
theorem dX4_cost_14 : decode cX4_cost 14 = .ok (.bipush 60, 2) := by decide +kernel
theorem dX4_cost_16 : decode cX4_cost 16 = .ok (.if_icmp .ge 7, 3) := by decide +kernel
theorem dX4_cost_19 : decode cX4_cost 19 = .ok (.iconst 1, 1) := by decide +kernel
theorem dX4_cost_20 : decode cX4_cost 20 = .ok (.goto 4, 3) := by decide +kernel
theorem dX4_cost_23 : decode cX4_cost 23 = .ok (.iconst 0, 1) := by decide +kernel
theorem dX4_cost_24 : decode cX4_cost 24 = .ok (.invokevirtual 116, 3) := by decide +kernel
theorem dX4_cost_27 : decode cX4_cost 27 = .ok (.ifCond .eq 13, 3) := by decide +kernel
theorem dX4_cost_30 : decode cX4_cost 30 = .ok (.aload_n 0, 1) := by decide +kernel
theorem dX4_cost_31 : decode cX4_cost 31 = .ok (.iload_n 1, 1) := by decide +kernel
theorem dX4_cost_32 : decode cX4_cost 32 = .ok (.iload_n 2, 1) := by decide +kernel
theorem dX4_cost_33 : decode cX4_cost 33 = .ok (.iconst 0, 1) := by decide +kernel
theorem dX4_cost_34 : decode cX4_cost 34 = .ok (.invokevirtual 137, 3) := by decide +kernel
theorem dX4_cost_37 : decode cX4_cost 37 = .ok (.goto 4, 3) := by decide +kernel
theorem dX4_cost_40 : decode cX4_cost 40 = .ok (.iconst 0, 1) := by decide +kernel
theorem dX4_cost_41 : decode cX4_cost 41 = .ok (.ireturn, 1) := by decide +kernel
set_option maxRecDepth 20000 in
theorem ggX4_overhead_X4_isWell : GoodIn wsX4_overhead wsX4_isWell := goodIn_r _ [7, 8, 9, 10, 6, 11, 25, 26, 27, 28, 29, 30, 31, 32, 33, 34, 35, 36, 37, 38, 39, 40, 41, 42, 43, 44, 45, 46, 47, 48, 49] (by decide +kernel) (by decide +kernel)
set_option maxRecDepth 20000 in
theorem gX4_overhead_X4_isWell : GoodIn wsX4_overhead (wsV RX4 124 RX4 yX4_isWell wsX4_isWell) := goodIn_app (goodIn_of _ (by decide +kernel)) ggX4_overhead_X4_isWell
set_option maxRecDepth 20000 in
theorem ggX4_overhead_X4_within : GoodIn wsX4_overhead wsX4_within := goodIn_r _ [11] (by decide +kernel) (by decide +kernel)
set_option maxRecDepth 20000 in
theorem gX4_overhead_X4_within : GoodIn wsX4_overhead (va_wsS RX4 76 yX4_within wsX4_within) := goodIn_app (goodIn_of _ (by decide +kernel)) ggX4_overhead_X4_within
set_option maxRecDepth 20000 in
theorem ggX4_overhead_X4_goes : GoodIn wsX4_overhead wsX4_goes := goodIn_r _ [15, 16, 25, 26, 27, 28, 29, 30, 31, 32, 33, 34, 35, 36, 37, 38, 39, 40, 41, 42, 43, 44, 45, 46, 47, 48, 49] (by decide +kernel) (by decide +kernel)
set_option maxRecDepth 20000 in
theorem gX4_overhead_X4_goes : GoodIn wsX4_overhead (wsV RX4 116 RX4 yX4_goes wsX4_goes) := goodIn_app (goodIn_of _ (by decide +kernel)) ggX4_overhead_X4_goes
set_option maxRecDepth 20000 in
theorem ggX4_overhead_X4_enters : GoodIn wsX4_overhead wsX4_enters := goodIn_r _ [20, 21, 1, 22, 23, 24, 25, 26, 27, 28, 29, 30, 31, 32, 33, 34, 35, 36, 37, 38, 39, 40, 41, 42, 43, 44, 45, 46, 47, 48, 49] (by decide +kernel) (by decide +kernel)
set_option maxRecDepth 20000 in
theorem gX4_overhead_X4_enters : GoodIn wsX4_overhead (wsV RX4 137 RX4 yX4_enters wsX4_enters) := goodIn_app (goodIn_of _ (by decide +kernel)) ggX4_overhead_X4_enters
theorem dX4_overhead_0 : decode cX4_overhead 0 = .ok (.aload_n 0, 1) := by decide +kernel
theorem dX4_overhead_1 : decode cX4_overhead 1 = .ok (.getfield 83, 3) := by decide +kernel
theorem dX4_overhead_4 : decode cX4_overhead 4 = .ok (.bipush 60, 2) := by decide +kernel
theorem dX4_overhead_6 : decode cX4_overhead 6 = .ok (.if_icmp .ge 14, 3) := by decide +kernel
theorem dX4_overhead_9 : decode cX4_overhead 9 = .ok (.aload_n 0, 1) := by decide +kernel
theorem dX4_overhead_10 : decode cX4_overhead 10 = .ok (.getfield 121, 3) := by decide +kernel
theorem dX4_overhead_13 : decode cX4_overhead 13 = .ok (.ifCond .le 7, 3) := by decide +kernel
theorem dX4_overhead_16 : decode cX4_overhead 16 = .ok (.iconst 1, 1) := by decide +kernel
theorem dX4_overhead_17 : decode cX4_overhead 17 = .ok (.goto 4, 3) := by decide +kernel
theorem dX4_overhead_20 : decode cX4_overhead 20 = .ok (.iconst 0, 1) := by decide +kernel
theorem dX4_overhead_21 : decode cX4_overhead 21 = .ok (.istore_n 3, 1) := by decide +kernel
theorem dX4_overhead_22 : decode cX4_overhead 22 = .ok (.aload_n 0, 1) := by decide +kernel
theorem dX4_overhead_23 : decode cX4_overhead 23 = .ok (.aload_n 0, 1) := by decide +kernel
theorem dX4_overhead_24 : decode cX4_overhead 24 = .ok (.iload_n 1, 1) := by decide +kernel
theorem dX4_overhead_25 : decode cX4_overhead 25 = .ok (.invokevirtual 124, 3) := by decide +kernel
theorem dX4_overhead_28 : decode cX4_overhead 28 = .ok (.iload_n 2, 1) := by decide +kernel
theorem dX4_overhead_29 : decode cX4_overhead 29 = .ok (.iconst 1, 1) := by decide +kernel
theorem dX4_overhead_30 : decode cX4_overhead 30 = .ok (.bipush 24, 2) := by decide +kernel
theorem dX4_overhead_32 : decode cX4_overhead 32 = .ok (.invokestatic 76, 3) := by decide +kernel
theorem dX4_overhead_35 : decode cX4_overhead 35 = .ok (.iload_n 3, 1) := by decide +kernel
theorem dX4_overhead_36 : decode cX4_overhead 36 = .ok (.invokevirtual 116, 3) := by decide +kernel
theorem dX4_overhead_39 : decode cX4_overhead 39 = .ok (.ifCond .eq 18, 3) := by decide +kernel
theorem dX4_overhead_42 : decode cX4_overhead 42 = .ok (.aload_n 0, 1) := by decide +kernel
theorem dX4_overhead_43 : decode cX4_overhead 43 = .ok (.iload_n 1, 1) := by decide +kernel
theorem dX4_overhead_44 : decode cX4_overhead 44 = .ok (.aload_n 0, 1) := by decide +kernel
theorem dX4_overhead_45 : decode cX4_overhead 45 = .ok (.getfield 121, 3) := by decide +kernel
theorem dX4_overhead_48 : decode cX4_overhead 48 = .ok (.iload_n 2, 1) := by decide +kernel
theorem dX4_overhead_49 : decode cX4_overhead 49 = .ok (.imul, 1) := by decide +kernel
theorem dX4_overhead_50 : decode cX4_overhead 50 = .ok (.iconst 0, 1) := by decide +kernel
theorem dX4_overhead_51 : decode cX4_overhead 51 = .ok (.invokevirtual 137, 3) := by decide +kernel
theorem dX4_overhead_54 : decode cX4_overhead 54 = .ok (.goto 4, 3) := by decide +kernel
theorem dX4_overhead_57 : decode cX4_overhead 57 = .ok (.iconst 0, 1) := by decide +kernel
theorem dX4_overhead_58 : decode cX4_overhead 58 = .ok (.ireturn, 1) := by decide +kernel
set_option maxRecDepth 20000 in
theorem ggX4_income_X4_isWell : GoodIn wsX4_income wsX4_isWell := goodIn_r _ [6, 7, 8, 9, 5, 10, 28, 29, 30, 31, 32, 33, 34, 35, 36, 37, 38, 39, 40, 41, 42, 43, 44, 45, 46, 47, 48, 49, 50, 51, 52] (by decide +kernel) (by decide +kernel)
set_option maxRecDepth 20000 in
theorem gX4_income_X4_isWell : GoodIn wsX4_income (wsV RX4 124 RX4 yX4_isWell wsX4_isWell) := goodIn_app (goodIn_of _ (by decide +kernel)) ggX4_income_X4_isWell
set_option maxRecDepth 20000 in
theorem ggX4_income_X4_isAmount : GoodIn wsX4_income wsX4_isAmount := goodIn_r _ [13, 14, 8, 9, 5, 10] (by decide +kernel) (by decide +kernel)
set_option maxRecDepth 20000 in
theorem gX4_income_X4_isAmount : GoodIn wsX4_income (va_wsS RX4 134 yX4_isAmount wsX4_isAmount) := goodIn_app (goodIn_of _ (by decide +kernel)) ggX4_income_X4_isAmount
set_option maxRecDepth 20000 in
theorem ggX4_income_X4_goes : GoodIn wsX4_income wsX4_goes := goodIn_r _ [18, 19, 28, 29, 30, 31, 32, 33, 34, 35, 36, 37, 38, 39, 40, 41, 42, 43, 44, 45, 46, 47, 48, 49, 50, 51, 52] (by decide +kernel) (by decide +kernel)
set_option maxRecDepth 20000 in
theorem gX4_income_X4_goes : GoodIn wsX4_income (wsV RX4 116 RX4 yX4_goes wsX4_goes) := goodIn_app (goodIn_of _ (by decide +kernel)) ggX4_income_X4_goes
set_option maxRecDepth 20000 in
theorem ggX4_income_X4_enters : GoodIn wsX4_income wsX4_enters := goodIn_r _ [23, 24, 1, 25, 26, 27, 28, 29, 30, 31, 32, 33, 34, 35, 36, 37, 38, 39, 40, 41, 42, 43, 44, 45, 46, 47, 48, 49, 50, 51, 52] (by decide +kernel) (by decide +kernel)
set_option maxRecDepth 20000 in
theorem gX4_income_X4_enters : GoodIn wsX4_income (wsV RX4 137 RX4 yX4_enters wsX4_enters) := goodIn_app (goodIn_of _ (by decide +kernel)) ggX4_income_X4_enters
theorem dX4_income_0 : decode cX4_income 0 = .ok (.aload_n 0, 1) := by decide +kernel
theorem dX4_income_1 : decode cX4_income 1 = .ok (.aload_n 0, 1) := by decide +kernel
theorem dX4_income_2 : decode cX4_income 2 = .ok (.iload_n 1, 1) := by decide +kernel
theorem dX4_income_3 : decode cX4_income 3 = .ok (.invokevirtual 124, 3) := by decide +kernel
theorem dX4_income_6 : decode cX4_income 6 = .ok (.iload_n 2, 1) := by decide +kernel
theorem dX4_income_7 : decode cX4_income 7 = .ok (.invokestatic 134, 3) := by decide +kernel
theorem dX4_income_10 : decode cX4_income 10 = .ok (.aload_n 0, 1) := by decide +kernel
theorem dX4_income_11 : decode cX4_income 11 = .ok (.getfield 83, 3) := by decide +kernel
theorem dX4_income_14 : decode cX4_income 14 = .ok (.bipush 60, 2) := by decide +kernel
theorem dX4_income_16 : decode cX4_income 16 = .ok (.if_icmp .ge 7, 3) := by decide +kernel
theorem dX4_income_19 : decode cX4_income 19 = .ok (.iconst 1, 1) := by decide +kernel
theorem dX4_income_20 : decode cX4_income 20 = .ok (.goto 4, 3) := by decide +kernel
theorem dX4_income_23 : decode cX4_income 23 = .ok (.iconst 0, 1) := by decide +kernel
theorem dX4_income_24 : decode cX4_income 24 = .ok (.invokevirtual 116, 3) := by decide +kernel
theorem dX4_income_27 : decode cX4_income 27 = .ok (.ifCond .eq 13, 3) := by decide +kernel
theorem dX4_income_30 : decode cX4_income 30 = .ok (.aload_n 0, 1) := by decide +kernel
theorem dX4_income_31 : decode cX4_income 31 = .ok (.iload_n 1, 1) := by decide +kernel
theorem dX4_income_32 : decode cX4_income 32 = .ok (.iload_n 2, 1) := by decide +kernel
theorem dX4_income_33 : decode cX4_income 33 = .ok (.iconst 1, 1) := by decide +kernel
theorem dX4_income_34 : decode cX4_income 34 = .ok (.invokevirtual 137, 3) := by decide +kernel
theorem dX4_income_37 : decode cX4_income 37 = .ok (.goto 4, 3) := by decide +kernel
theorem dX4_income_40 : decode cX4_income 40 = .ok (.iconst 0, 1) := by decide +kernel
theorem dX4_income_41 : decode cX4_income 41 = .ok (.ireturn, 1) := by decide +kernel
set_option maxRecDepth 20000 in
theorem ggX4_move_X4_isVoucher : GoodIn wsX4_move wsX4_isVoucher := goodIn_r _ [8, 9, 10, 11, 7, 12, 23, 24, 25, 26, 27, 28, 29, 30, 31, 32, 33, 34, 35, 36, 37, 38, 39, 40, 41, 42, 43, 44, 45, 46, 47] (by decide +kernel) (by decide +kernel)
set_option maxRecDepth 20000 in
theorem gX4_move_X4_isVoucher : GoodIn wsX4_move (wsV RX4 141 RX4 yX4_isVoucher wsX4_isVoucher) := goodIn_app (goodIn_of _ (by decide +kernel)) ggX4_move_X4_isVoucher
set_option maxRecDepth 20000 in
theorem ggX4_move_X4_isWell : GoodIn wsX4_move wsX4_isWell := goodIn_r _ [16, 17, 10, 11, 7, 12, 23, 24, 25, 26, 27, 28, 29, 30, 31, 32, 33, 34, 35, 36, 37, 38, 39, 40, 41, 42, 43, 44, 45, 46, 47] (by decide +kernel) (by decide +kernel)
set_option maxRecDepth 20000 in
theorem gX4_move_X4_isWell : GoodIn wsX4_move (wsV RX4 124 RX4 yX4_isWell wsX4_isWell) := goodIn_app (goodIn_of _ (by decide +kernel)) ggX4_move_X4_isWell
set_option maxRecDepth 20000 in
theorem ggX4_move_X4_goes : GoodIn wsX4_move wsX4_goes := goodIn_r _ [21, 22, 23, 24, 25, 26, 27, 28, 29, 30, 31, 32, 33, 34, 35, 36, 37, 38, 39, 40, 41, 42, 43, 44, 45, 46, 47] (by decide +kernel) (by decide +kernel)
set_option maxRecDepth 20000 in
theorem gX4_move_X4_goes : GoodIn wsX4_move (wsV RX4 116 RX4 yX4_goes wsX4_goes) := goodIn_app (goodIn_of _ (by decide +kernel)) ggX4_move_X4_goes
theorem dX4_move_0 : decode cX4_move 0 = .ok (.aload_n 0, 1) := by decide +kernel
theorem dX4_move_1 : decode cX4_move 1 = .ok (.iload_n 1, 1) := by decide +kernel
theorem dX4_move_2 : decode cX4_move 2 = .ok (.invokevirtual 141, 3) := by decide +kernel
theorem dX4_move_5 : decode cX4_move 5 = .ok (.ifCond .eq 15, 3) := by decide +kernel
theorem dX4_move_8 : decode cX4_move 8 = .ok (.aload_n 0, 1) := by decide +kernel
theorem dX4_move_9 : decode cX4_move 9 = .ok (.iload_n 2, 1) := by decide +kernel
theorem dX4_move_10 : decode cX4_move 10 = .ok (.invokevirtual 124, 3) := by decide +kernel
theorem dX4_move_13 : decode cX4_move 13 = .ok (.ifCond .eq 7, 3) := by decide +kernel
theorem dX4_move_16 : decode cX4_move 16 = .ok (.iconst 1, 1) := by decide +kernel
theorem dX4_move_17 : decode cX4_move 17 = .ok (.goto 4, 3) := by decide +kernel
theorem dX4_move_20 : decode cX4_move 20 = .ok (.iconst 0, 1) := by decide +kernel
theorem dX4_move_21 : decode cX4_move 21 = .ok (.istore_n 3, 1) := by decide +kernel
theorem dX4_move_22 : decode cX4_move 22 = .ok (.aload_n 0, 1) := by decide +kernel
theorem dX4_move_23 : decode cX4_move 23 = .ok (.iload_n 3, 1) := by decide +kernel
theorem dX4_move_24 : decode cX4_move 24 = .ok (.iload_n 3, 1) := by decide +kernel
theorem dX4_move_25 : decode cX4_move 25 = .ok (.ifCond .eq 16, 3) := by decide +kernel
theorem dX4_move_28 : decode cX4_move 28 = .ok (.aload_n 0, 1) := by decide +kernel
theorem dX4_move_29 : decode cX4_move 29 = .ok (.getfield 33, 3) := by decide +kernel
theorem dX4_move_32 : decode cX4_move 32 = .ok (.iload_n 1, 1) := by decide +kernel
theorem dX4_move_33 : decode cX4_move 33 = .ok (.baload, 1) := by decide +kernel
theorem dX4_move_34 : decode cX4_move 34 = .ok (.ifCond .ne 7, 3) := by decide +kernel
theorem dX4_move_37 : decode cX4_move 37 = .ok (.iconst 1, 1) := by decide +kernel
theorem dX4_move_38 : decode cX4_move 38 = .ok (.goto 4, 3) := by decide +kernel
theorem dX4_move_41 : decode cX4_move 41 = .ok (.iconst 0, 1) := by decide +kernel
theorem dX4_move_42 : decode cX4_move 42 = .ok (.iconst 1, 1) := by decide +kernel
theorem dX4_move_43 : decode cX4_move 43 = .ok (.invokevirtual 116, 3) := by decide +kernel
theorem dX4_move_46 : decode cX4_move 46 = .ok (.ifCond .ne 5, 3) := by decide +kernel
theorem dX4_move_49 : decode cX4_move 49 = .ok (.iconst 0, 1) := by decide +kernel
theorem dX4_move_50 : decode cX4_move 50 = .ok (.ireturn, 1) := by decide +kernel
theorem dX4_move_51 : decode cX4_move 51 = .ok (.aload_n 0, 1) := by decide +kernel
theorem dX4_move_52 : decode cX4_move 52 = .ok (.getfield 27, 3) := by decide +kernel
theorem dX4_move_55 : decode cX4_move 55 = .ok (.iload_n 1, 1) := by decide +kernel
theorem dX4_move_56 : decode cX4_move 56 = .ok (.iaload, 1) := by decide +kernel
theorem dX4_move_57 : decode cX4_move 57 = .ok (.istore 4, 2) := by decide +kernel
theorem dX4_move_59 : decode cX4_move 59 = .ok (.aload_n 0, 1) := by decide +kernel
theorem dX4_move_60 : decode cX4_move 60 = .ok (.getfield 27, 3) := by decide +kernel
theorem dX4_move_63 : decode cX4_move 63 = .ok (.iload_n 1, 1) := by decide +kernel
theorem dX4_move_64 : decode cX4_move 64 = .ok (.iload_n 2, 1) := by decide +kernel
theorem dX4_move_65 : decode cX4_move 65 = .ok (.iastore, 1) := by decide +kernel
theorem dX4_move_66 : decode cX4_move 66 = .ok (.aload_n 0, 1) := by decide +kernel
theorem dX4_move_67 : decode cX4_move 67 = .ok (.getfield 20, 3) := by decide +kernel
theorem dX4_move_70 : decode cX4_move 70 = .ok (.iload_n 2, 1) := by decide +kernel
theorem dX4_move_71 : decode cX4_move 71 = .ok (.iconst 1, 1) := by decide +kernel
theorem dX4_move_72 : decode cX4_move 72 = .ok (.bastore, 1) := by decide +kernel
theorem dX4_move_73 : decode cX4_move 73 = .ok (.iload 4, 2) := by decide +kernel
theorem dX4_move_75 : decode cX4_move 75 = .ok (.ireturn, 1) := by decide +kernel
theorem dX4_vouchers_0 : decode cX4_vouchers 0 = .ok (.aload_n 0, 1) := by decide +kernel
theorem dX4_vouchers_1 : decode cX4_vouchers 1 = .ok (.iconst 0, 1) := by decide +kernel
theorem dX4_vouchers_2 : decode cX4_vouchers 2 = .ok (.putfield 73, 3) := by decide +kernel
theorem dX4_vouchers_5 : decode cX4_vouchers 5 = .ok (.aload_n 0, 1) := by decide +kernel
theorem dX4_vouchers_6 : decode cX4_vouchers 6 = .ok (.getfield 83, 3) := by decide +kernel
theorem dX4_vouchers_9 : decode cX4_vouchers 9 = .ok (.ireturn, 1) := by decide +kernel
set_option maxRecDepth 20000 in
theorem ggX4_wellOf_X4_isVoucher : GoodIn wsX4_wellOf wsX4_isVoucher := goodIn_r _ [6, 7, 8, 9, 5, 10, 16, 17, 18, 19, 20, 21, 22, 23, 24, 25, 26, 27, 28, 29, 30, 31, 32, 33, 34, 35, 36, 37, 38, 39, 40] (by decide +kernel) (by decide +kernel)
set_option maxRecDepth 20000 in
theorem gX4_wellOf_X4_isVoucher : GoodIn wsX4_wellOf (wsV RX4 141 RX4 yX4_isVoucher wsX4_isVoucher) := goodIn_app (goodIn_of _ (by decide +kernel)) ggX4_wellOf_X4_isVoucher
set_option maxRecDepth 20000 in
theorem ggX4_wellOf_X4_goes : GoodIn wsX4_wellOf wsX4_goes := goodIn_r _ [14, 15, 16, 17, 18, 19, 20, 21, 22, 23, 24, 25, 26, 27, 28, 29, 30, 31, 32, 33, 34, 35, 36, 37, 38, 39, 40] (by decide +kernel) (by decide +kernel)
set_option maxRecDepth 20000 in
theorem gX4_wellOf_X4_goes : GoodIn wsX4_wellOf (wsV RX4 116 RX4 yX4_goes wsX4_goes) := goodIn_app (goodIn_of _ (by decide +kernel)) ggX4_wellOf_X4_goes
theorem dX4_wellOf_0 : decode cX4_wellOf 0 = .ok (.aload_n 0, 1) := by decide +kernel
theorem dX4_wellOf_1 : decode cX4_wellOf 1 = .ok (.aload_n 0, 1) := by decide +kernel
theorem dX4_wellOf_2 : decode cX4_wellOf 2 = .ok (.iload_n 1, 1) := by decide +kernel
theorem dX4_wellOf_3 : decode cX4_wellOf 3 = .ok (.invokevirtual 141, 3) := by decide +kernel
theorem dX4_wellOf_6 : decode cX4_wellOf 6 = .ok (.iconst 1, 1) := by decide +kernel
theorem dX4_wellOf_7 : decode cX4_wellOf 7 = .ok (.iconst 1, 1) := by decide +kernel
theorem dX4_wellOf_8 : decode cX4_wellOf 8 = .ok (.invokevirtual 116, 3) := by decide +kernel
theorem dX4_wellOf_11 : decode cX4_wellOf 11 = .ok (.ifCond .eq 12, 3) := by decide +kernel
theorem dX4_wellOf_14 : decode cX4_wellOf 14 = .ok (.aload_n 0, 1) := by decide +kernel
theorem dX4_wellOf_15 : decode cX4_wellOf 15 = .ok (.getfield 27, 3) := by decide +kernel
theorem dX4_wellOf_18 : decode cX4_wellOf 18 = .ok (.iload_n 1, 1) := by decide +kernel
theorem dX4_wellOf_19 : decode cX4_wellOf 19 = .ok (.iaload, 1) := by decide +kernel
theorem dX4_wellOf_20 : decode cX4_wellOf 20 = .ok (.goto 4, 3) := by decide +kernel
theorem dX4_wellOf_23 : decode cX4_wellOf 23 = .ok (.iconst 0, 1) := by decide +kernel
theorem dX4_wellOf_24 : decode cX4_wellOf 24 = .ok (.ireturn, 1) := by decide +kernel
set_option maxRecDepth 20000 in
theorem ggX4_amountOf_X4_isVoucher : GoodIn wsX4_amountOf wsX4_isVoucher := goodIn_r _ [7, 8, 9, 10, 6, 11, 17, 18, 19, 20, 21, 22, 23, 24, 25, 26, 27, 28, 29, 30, 31, 32, 33, 34, 35, 36, 37, 38, 39, 40, 41] (by decide +kernel) (by decide +kernel)
set_option maxRecDepth 20000 in
theorem gX4_amountOf_X4_isVoucher : GoodIn wsX4_amountOf (wsV RX4 141 RX4 yX4_isVoucher wsX4_isVoucher) := goodIn_app (goodIn_of _ (by decide +kernel)) ggX4_amountOf_X4_isVoucher
set_option maxRecDepth 20000 in
theorem ggX4_amountOf_X4_goes : GoodIn wsX4_amountOf wsX4_goes := goodIn_r _ [15, 16, 17, 18, 19, 20, 21, 22, 23, 24, 25, 26, 27, 28, 29, 30, 31, 32, 33, 34, 35, 36, 37, 38, 39, 40, 41] (by decide +kernel) (by decide +kernel)
set_option maxRecDepth 20000 in
theorem gX4_amountOf_X4_goes : GoodIn wsX4_amountOf (wsV RX4 116 RX4 yX4_goes wsX4_goes) := goodIn_app (goodIn_of _ (by decide +kernel)) ggX4_amountOf_X4_goes
theorem dX4_amountOf_0 : decode cX4_amountOf 0 = .ok (.aload_n 0, 1) := by decide +kernel
theorem dX4_amountOf_1 : decode cX4_amountOf 1 = .ok (.aload_n 0, 1) := by decide +kernel
theorem dX4_amountOf_2 : decode cX4_amountOf 2 = .ok (.iload_n 1, 1) := by decide +kernel
theorem dX4_amountOf_3 : decode cX4_amountOf 3 = .ok (.invokevirtual 141, 3) := by decide +kernel
theorem dX4_amountOf_6 : decode cX4_amountOf 6 = .ok (.iconst 1, 1) := by decide +kernel
theorem dX4_amountOf_7 : decode cX4_amountOf 7 = .ok (.iconst 1, 1) := by decide +kernel
theorem dX4_amountOf_8 : decode cX4_amountOf 8 = .ok (.invokevirtual 116, 3) := by decide +kernel
theorem dX4_amountOf_11 : decode cX4_amountOf 11 = .ok (.ifCond .eq 31, 3) := by decide +kernel
theorem dX4_amountOf_14 : decode cX4_amountOf 14 = .ok (.aload_n 0, 1) := by decide +kernel
theorem dX4_amountOf_15 : decode cX4_amountOf 15 = .ok (.getfield 33, 3) := by decide +kernel
theorem dX4_amountOf_18 : decode cX4_amountOf 18 = .ok (.iload_n 1, 1) := by decide +kernel
theorem dX4_amountOf_19 : decode cX4_amountOf 19 = .ok (.baload, 1) := by decide +kernel
theorem dX4_amountOf_20 : decode cX4_amountOf 20 = .ok (.ifCond .eq 13, 3) := by decide +kernel
theorem dX4_amountOf_23 : decode cX4_amountOf 23 = .ok (.aload_n 0, 1) := by decide +kernel
theorem dX4_amountOf_24 : decode cX4_amountOf 24 = .ok (.getfield 30, 3) := by decide +kernel
theorem dX4_amountOf_27 : decode cX4_amountOf 27 = .ok (.iload_n 1, 1) := by decide +kernel
theorem dX4_amountOf_28 : decode cX4_amountOf 28 = .ok (.iaload, 1) := by decide +kernel
theorem dX4_amountOf_29 : decode cX4_amountOf 29 = .ok (.ineg, 1) := by decide +kernel
theorem dX4_amountOf_30 : decode cX4_amountOf 30 = .ok (.goto 13, 3) := by decide +kernel
theorem dX4_amountOf_33 : decode cX4_amountOf 33 = .ok (.aload_n 0, 1) := by decide +kernel
theorem dX4_amountOf_34 : decode cX4_amountOf 34 = .ok (.getfield 30, 3) := by decide +kernel
theorem dX4_amountOf_37 : decode cX4_amountOf 37 = .ok (.iload_n 1, 1) := by decide +kernel
theorem dX4_amountOf_38 : decode cX4_amountOf 38 = .ok (.iaload, 1) := by decide +kernel
theorem dX4_amountOf_39 : decode cX4_amountOf 39 = .ok (.goto 4, 3) := by decide +kernel
theorem dX4_amountOf_42 : decode cX4_amountOf 42 = .ok (.iconst 0, 1) := by decide +kernel
theorem dX4_amountOf_43 : decode cX4_amountOf 43 = .ok (.ireturn, 1) := by decide +kernel
set_option maxRecDepth 20000 in
theorem ggX4_accounts_X4_isWell : GoodIn wsX4_accounts wsX4_isWell := goodIn_r _ [5, 6, 7, 8, 4, 9, 60, 61, 62, 63, 64, 65, 66, 67, 68, 69, 70, 71, 72, 73, 74, 75, 76, 77, 78, 79, 80, 81, 82, 83, 84] (by decide +kernel) (by decide +kernel)
set_option maxRecDepth 20000 in
theorem gX4_accounts_X4_isWell : GoodIn wsX4_accounts (wsV RX4 124 RX4 yX4_isWell wsX4_isWell) := goodIn_app (goodIn_of _ (by decide +kernel)) ggX4_accounts_X4_isWell
set_option maxRecDepth 20000 in
theorem ggX4_accounts_X4_isPartner : GoodIn wsX4_accounts wsX4_isPartner := goodIn_r _ [12, 7, 8, 4, 9] (by decide +kernel) (by decide +kernel)
set_option maxRecDepth 20000 in
theorem gX4_accounts_X4_isPartner : GoodIn wsX4_accounts (va_wsS RX4 127 yX4_isPartner wsX4_isPartner) := goodIn_app (goodIn_of _ (by decide +kernel)) ggX4_accounts_X4_isPartner
set_option maxRecDepth 20000 in
theorem ggX4_accounts_X4_goes : GoodIn wsX4_accounts wsX4_goes := goodIn_r _ [16, 17, 60, 61, 62, 63, 64, 65, 66, 67, 68, 69, 70, 71, 72, 73, 74, 75, 76, 77, 78, 79, 80, 81, 82, 83, 84] (by decide +kernel) (by decide +kernel)
set_option maxRecDepth 20000 in
theorem gX4_accounts_X4_goes : GoodIn wsX4_accounts (wsV RX4 116 RX4 yX4_goes wsX4_goes) := goodIn_app (goodIn_of _ (by decide +kernel)) ggX4_accounts_X4_goes
set_option maxRecDepth 20000 in
theorem ggX4_accounts_X4_works : GoodIn wsX4_accounts wsX4_works := goodIn_r _ [21, 22, 23, 24, 25, 26, 27, 28, 29, 30, 31, 32, 33, 34, 35, 4, 36, 37, 38, 39, 40, 41, 42, 43, 44, 45, 46, 47, 48, 49, 50, 51, 52, 53, 54, 55, 56, 57, 58, 59, 60, 61, 62, 63, 64, 65, 66, 67, 68, 69, 70, 71, 72, 73, 74, 75, 76, 77, 78, 79, 80, 81, 82, 83, 84] (by decide +kernel) (by decide +kernel)
set_option maxRecDepth 20000 in
theorem gX4_accounts_X4_works : GoodIn wsX4_accounts (wsV RX4 144 RX4 yX4_works wsX4_works) := goodIn_app (goodIn_of _ (by decide +kernel)) ggX4_accounts_X4_works
theorem dX4_accounts_0 : decode cX4_accounts 0 = .ok (.aload_n 0, 1) := by decide +kernel
theorem dX4_accounts_1 : decode cX4_accounts 1 = .ok (.aload_n 0, 1) := by decide +kernel
theorem dX4_accounts_2 : decode cX4_accounts 2 = .ok (.iload_n 1, 1) := by decide +kernel
theorem dX4_accounts_3 : decode cX4_accounts 3 = .ok (.invokevirtual 124, 3) := by decide +kernel
theorem dX4_accounts_6 : decode cX4_accounts 6 = .ok (.ifCond .eq 14, 3) := by decide +kernel
theorem dX4_accounts_9 : decode cX4_accounts 9 = .ok (.iload_n 2, 1) := by decide +kernel
theorem dX4_accounts_10 : decode cX4_accounts 10 = .ok (.invokestatic 127, 3) := by decide +kernel
theorem dX4_accounts_13 : decode cX4_accounts 13 = .ok (.ifCond .eq 7, 3) := by decide +kernel
theorem dX4_accounts_16 : decode cX4_accounts 16 = .ok (.iconst 1, 1) := by decide +kernel
theorem dX4_accounts_17 : decode cX4_accounts 17 = .ok (.goto 4, 3) := by decide +kernel
theorem dX4_accounts_20 : decode cX4_accounts 20 = .ok (.iconst 0, 1) := by decide +kernel
theorem dX4_accounts_21 : decode cX4_accounts 21 = .ok (.iconst 1, 1) := by decide +kernel
theorem dX4_accounts_22 : decode cX4_accounts 22 = .ok (.iconst 1, 1) := by decide +kernel
theorem dX4_accounts_23 : decode cX4_accounts 23 = .ok (.invokevirtual 116, 3) := by decide +kernel
theorem dX4_accounts_26 : decode cX4_accounts 26 = .ok (.istore_n 3, 1) := by decide +kernel
theorem dX4_accounts_27 : decode cX4_accounts 27 = .ok (.iload_n 3, 1) := by decide +kernel
theorem dX4_accounts_28 : decode cX4_accounts 28 = .ok (.ifCond .eq 8, 3) := by decide +kernel
theorem dX4_accounts_31 : decode cX4_accounts 31 = .ok (.aload_n 0, 1) := by decide +kernel
theorem dX4_accounts_32 : decode cX4_accounts 32 = .ok (.iload_n 1, 1) := by decide +kernel
theorem dX4_accounts_33 : decode cX4_accounts 33 = .ok (.invokevirtual 144, 3) := by decide +kernel
theorem dX4_accounts_36 : decode cX4_accounts 36 = .ok (.iload_n 3, 1) := by decide +kernel
theorem dX4_accounts_37 : decode cX4_accounts 37 = .ok (.ireturn, 1) := by decide +kernel
set_option maxRecDepth 20000 in
theorem ggX4_isIn_X4_accounts : GoodIn wsX4_isIn wsX4_accounts := goodIn_r _ [6, 7, 8, 9, 5, 10, 11, 12, 13, 14, 15, 16, 17, 18, 19, 20, 21, 22, 23, 24, 25, 26, 1, 27, 28, 29, 30, 31, 32, 33, 34, 35, 36, 37, 38, 39, 40, 41, 42, 43, 44, 45, 46, 47, 48, 49, 50, 51, 52, 53, 54, 55, 56, 57, 58, 59, 60, 61, 62, 63, 64, 65, 66, 67, 68, 69, 70, 71, 72, 73, 74, 75, 76, 77, 78, 79, 80, 81, 82, 83, 84, 85, 86, 87, 88] (by decide +kernel) (by decide +kernel)
set_option maxRecDepth 20000 in
theorem gX4_isIn_X4_accounts : GoodIn wsX4_isIn (wsV RX4 147 RX4 yX4_accounts wsX4_accounts) := goodIn_app (goodIn_of _ (by decide +kernel)) ggX4_isIn_X4_accounts
theorem dX4_isIn_0 : decode cX4_isIn 0 = .ok (.aload_n 0, 1) := by decide +kernel
theorem dX4_isIn_1 : decode cX4_isIn 1 = .ok (.iload_n 1, 1) := by decide +kernel
theorem dX4_isIn_2 : decode cX4_isIn 2 = .ok (.iload_n 2, 1) := by decide +kernel
theorem dX4_isIn_3 : decode cX4_isIn 3 = .ok (.invokevirtual 147, 3) := by decide +kernel
theorem dX4_isIn_6 : decode cX4_isIn 6 = .ok (.ifCond .eq 16, 3) := by decide +kernel
theorem dX4_isIn_9 : decode cX4_isIn 9 = .ok (.aload_n 0, 1) := by decide +kernel
theorem dX4_isIn_10 : decode cX4_isIn 10 = .ok (.getfield 45, 3) := by decide +kernel
theorem dX4_isIn_13 : decode cX4_isIn 13 = .ok (.iload_n 2, 1) := by decide +kernel
theorem dX4_isIn_14 : decode cX4_isIn 14 = .ok (.baload, 1) := by decide +kernel
theorem dX4_isIn_15 : decode cX4_isIn 15 = .ok (.ifCond .eq 7, 3) := by decide +kernel
theorem dX4_isIn_18 : decode cX4_isIn 18 = .ok (.iconst 1, 1) := by decide +kernel
theorem dX4_isIn_19 : decode cX4_isIn 19 = .ok (.goto 4, 3) := by decide +kernel
theorem dX4_isIn_22 : decode cX4_isIn 22 = .ok (.iconst 0, 1) := by decide +kernel
theorem dX4_isIn_23 : decode cX4_isIn 23 = .ok (.ireturn, 1) := by decide +kernel
set_option maxRecDepth 20000 in
theorem ggX4_toEarn_X4_accounts : GoodIn wsX4_toEarn wsX4_accounts := goodIn_r _ [6, 7, 8, 9, 5, 10, 11, 12, 13, 14, 15, 16, 17, 18, 19, 20, 21, 22, 23, 24, 25, 26, 27, 28, 29, 1, 30, 31, 32, 33, 34, 35, 36, 37, 38, 39, 40, 41, 42, 43, 44, 45, 46, 47, 48, 49, 50, 51, 52, 53, 54, 55, 56, 57, 58, 59, 60, 61, 62, 63, 64, 65, 66, 67, 68, 69, 70, 71, 72, 73, 74, 75, 76, 77, 78, 79, 80, 81, 82, 83, 84, 85, 86, 87, 88] (by decide +kernel) (by decide +kernel)
set_option maxRecDepth 20000 in
theorem gX4_toEarn_X4_accounts : GoodIn wsX4_toEarn (wsV RX4 147 RX4 yX4_accounts wsX4_accounts) := goodIn_app (goodIn_of _ (by decide +kernel)) ggX4_toEarn_X4_accounts
theorem dX4_toEarn_0 : decode cX4_toEarn 0 = .ok (.aload_n 0, 1) := by decide +kernel
theorem dX4_toEarn_1 : decode cX4_toEarn 1 = .ok (.iload_n 1, 1) := by decide +kernel
theorem dX4_toEarn_2 : decode cX4_toEarn 2 = .ok (.iload_n 2, 1) := by decide +kernel
theorem dX4_toEarn_3 : decode cX4_toEarn 3 = .ok (.invokevirtual 147, 3) := by decide +kernel
theorem dX4_toEarn_6 : decode cX4_toEarn 6 = .ok (.ifCond .eq 12, 3) := by decide +kernel
theorem dX4_toEarn_9 : decode cX4_toEarn 9 = .ok (.aload_n 0, 1) := by decide +kernel
theorem dX4_toEarn_10 : decode cX4_toEarn 10 = .ok (.getfield 48, 3) := by decide +kernel
theorem dX4_toEarn_13 : decode cX4_toEarn 13 = .ok (.iload_n 2, 1) := by decide +kernel
theorem dX4_toEarn_14 : decode cX4_toEarn 14 = .ok (.laload, 1) := by decide +kernel
theorem dX4_toEarn_15 : decode cX4_toEarn 15 = .ok (.goto 4, 3) := by decide +kernel
theorem dX4_toEarn_18 : decode cX4_toEarn 18 = .ok (.lconst 0, 1) := by decide +kernel
theorem dX4_toEarn_19 : decode cX4_toEarn 19 = .ok (.lreturn, 1) := by decide +kernel
set_option maxRecDepth 20000 in
theorem ggX4_backAt_X4_accounts : GoodIn wsX4_backAt wsX4_accounts := goodIn_r _ [6, 7, 8, 9, 5, 10, 11, 12, 13, 14, 15, 16, 17, 18, 19, 20, 21, 22, 23, 24, 25, 26, 27, 28, 29, 30, 1, 31, 32, 33, 34, 35, 36, 37, 38, 39, 40, 41, 42, 43, 44, 45, 46, 47, 48, 49, 50, 51, 52, 53, 54, 55, 56, 57, 58, 59, 60, 61, 62, 63, 64, 65, 66, 67, 68, 69, 70, 71, 72, 73, 74, 75, 76, 77, 78, 79, 80, 81, 82, 83, 84, 85, 86, 87, 88] (by decide +kernel) (by decide +kernel)
set_option maxRecDepth 20000 in
theorem gX4_backAt_X4_accounts : GoodIn wsX4_backAt (wsV RX4 147 RX4 yX4_accounts wsX4_accounts) := goodIn_app (goodIn_of _ (by decide +kernel)) ggX4_backAt_X4_accounts
theorem dX4_backAt_0 : decode cX4_backAt 0 = .ok (.aload_n 0, 1) := by decide +kernel
theorem dX4_backAt_1 : decode cX4_backAt 1 = .ok (.iload_n 1, 1) := by decide +kernel
theorem dX4_backAt_2 : decode cX4_backAt 2 = .ok (.iload_n 2, 1) := by decide +kernel
theorem dX4_backAt_3 : decode cX4_backAt 3 = .ok (.invokevirtual 147, 3) := by decide +kernel
theorem dX4_backAt_6 : decode cX4_backAt 6 = .ok (.ifCond .eq 12, 3) := by decide +kernel
theorem dX4_backAt_9 : decode cX4_backAt 9 = .ok (.aload_n 0, 1) := by decide +kernel
theorem dX4_backAt_10 : decode cX4_backAt 10 = .ok (.getfield 52, 3) := by decide +kernel
theorem dX4_backAt_13 : decode cX4_backAt 13 = .ok (.iload_n 2, 1) := by decide +kernel
theorem dX4_backAt_14 : decode cX4_backAt 14 = .ok (.iaload, 1) := by decide +kernel
theorem dX4_backAt_15 : decode cX4_backAt 15 = .ok (.goto 4, 3) := by decide +kernel
theorem dX4_backAt_18 : decode cX4_backAt 18 = .ok (.iconst 0, 1) := by decide +kernel
theorem dX4_backAt_19 : decode cX4_backAt 19 = .ok (.ireturn, 1) := by decide +kernel
set_option maxRecDepth 20000 in
theorem ggX4_charged_X4_accounts : GoodIn wsX4_charged wsX4_accounts := goodIn_r _ [6, 7, 8, 9, 5, 10, 11, 12, 13, 14, 15, 16, 17, 18, 19, 20, 21, 22, 23, 24, 25, 26, 27, 28, 29, 30, 31, 1, 32, 33, 34, 35, 36, 37, 38, 39, 40, 41, 42, 43, 44, 45, 46, 47, 48, 49, 50, 51, 52, 53, 54, 55, 56, 57, 58, 59, 60, 61, 62, 63, 64, 65, 66, 67, 68, 69, 70, 71, 72, 73, 74, 75, 76, 77, 78, 79, 80, 81, 82, 83, 84, 85, 86, 87, 88] (by decide +kernel) (by decide +kernel)
set_option maxRecDepth 20000 in
theorem gX4_charged_X4_accounts : GoodIn wsX4_charged (wsV RX4 147 RX4 yX4_accounts wsX4_accounts) := goodIn_app (goodIn_of _ (by decide +kernel)) ggX4_charged_X4_accounts
theorem dX4_charged_0 : decode cX4_charged 0 = .ok (.aload_n 0, 1) := by decide +kernel
theorem dX4_charged_1 : decode cX4_charged 1 = .ok (.iload_n 1, 1) := by decide +kernel
theorem dX4_charged_2 : decode cX4_charged 2 = .ok (.iload_n 2, 1) := by decide +kernel
theorem dX4_charged_3 : decode cX4_charged 3 = .ok (.invokevirtual 147, 3) := by decide +kernel
theorem dX4_charged_6 : decode cX4_charged 6 = .ok (.ifCond .eq 12, 3) := by decide +kernel
theorem dX4_charged_9 : decode cX4_charged 9 = .ok (.aload_n 0, 1) := by decide +kernel
theorem dX4_charged_10 : decode cX4_charged 10 = .ok (.getfield 55, 3) := by decide +kernel
theorem dX4_charged_13 : decode cX4_charged 13 = .ok (.iload_n 2, 1) := by decide +kernel
theorem dX4_charged_14 : decode cX4_charged 14 = .ok (.iaload, 1) := by decide +kernel
theorem dX4_charged_15 : decode cX4_charged 15 = .ok (.goto 4, 3) := by decide +kernel
theorem dX4_charged_18 : decode cX4_charged 18 = .ok (.iconst 0, 1) := by decide +kernel
theorem dX4_charged_19 : decode cX4_charged 19 = .ok (.ireturn, 1) := by decide +kernel
set_option maxRecDepth 20000 in
theorem ggX4_credited_X4_accounts : GoodIn wsX4_credited wsX4_accounts := goodIn_r _ [6, 7, 8, 9, 5, 10, 11, 12, 13, 14, 15, 16, 17, 18, 19, 20, 21, 22, 23, 24, 25, 26, 27, 28, 29, 30, 31, 32, 1, 33, 34, 35, 36, 37, 38, 39, 40, 41, 42, 43, 44, 45, 46, 47, 48, 49, 50, 51, 52, 53, 54, 55, 56, 57, 58, 59, 60, 61, 62, 63, 64, 65, 66, 67, 68, 69, 70, 71, 72, 73, 74, 75, 76, 77, 78, 79, 80, 81, 82, 83, 84, 85, 86, 87, 88] (by decide +kernel) (by decide +kernel)
set_option maxRecDepth 20000 in
theorem gX4_credited_X4_accounts : GoodIn wsX4_credited (wsV RX4 147 RX4 yX4_accounts wsX4_accounts) := goodIn_app (goodIn_of _ (by decide +kernel)) ggX4_credited_X4_accounts
theorem dX4_credited_0 : decode cX4_credited 0 = .ok (.aload_n 0, 1) := by decide +kernel
theorem dX4_credited_1 : decode cX4_credited 1 = .ok (.iload_n 1, 1) := by decide +kernel
theorem dX4_credited_2 : decode cX4_credited 2 = .ok (.iload_n 2, 1) := by decide +kernel
theorem dX4_credited_3 : decode cX4_credited 3 = .ok (.invokevirtual 147, 3) := by decide +kernel
theorem dX4_credited_6 : decode cX4_credited 6 = .ok (.ifCond .eq 12, 3) := by decide +kernel
theorem dX4_credited_9 : decode cX4_credited 9 = .ok (.aload_n 0, 1) := by decide +kernel
theorem dX4_credited_10 : decode cX4_credited 10 = .ok (.getfield 58, 3) := by decide +kernel
theorem dX4_credited_13 : decode cX4_credited 13 = .ok (.iload_n 2, 1) := by decide +kernel
theorem dX4_credited_14 : decode cX4_credited 14 = .ok (.iaload, 1) := by decide +kernel
theorem dX4_credited_15 : decode cX4_credited 15 = .ok (.goto 4, 3) := by decide +kernel
theorem dX4_credited_18 : decode cX4_credited 18 = .ok (.iconst 0, 1) := by decide +kernel
theorem dX4_credited_19 : decode cX4_credited 19 = .ok (.ireturn, 1) := by decide +kernel
set_option maxRecDepth 20000 in
theorem ggX4_weighs_X4_works : GoodIn wsX4_weighs wsX4_works := goodIn_r _ [6, 7, 8, 9, 10, 11, 1, 12, 13, 14, 15, 16, 17, 18, 19, 5, 20, 21, 22, 23, 24, 25, 26, 27, 28, 29, 30, 31, 32, 33, 34, 35, 36, 37, 38, 39, 40, 41, 42, 43, 44, 45, 46, 47, 48, 49, 50, 51, 52, 53, 54, 55, 56, 57, 58, 59, 60, 61, 62, 63, 64, 65, 66, 67, 68] (by decide +kernel) (by decide +kernel)
set_option maxRecDepth 20000 in
theorem gX4_weighs_X4_works : GoodIn wsX4_weighs (wsV RX4 144 RX4 yX4_works wsX4_works) := goodIn_app (goodIn_of _ (by decide +kernel)) ggX4_weighs_X4_works
set_option maxRecDepth 20000 in
theorem ggX4_weighs_X4_costs : GoodIn wsX4_weighs wsX4_costs := goodIn_r _ [40, 8, 7, 21, 10, 41, 42, 43, 1, 22, 23, 24, 25, 5, 26, 27, 28, 29, 30, 31, 32, 33, 34, 35, 36, 44, 45, 46, 47, 48, 49, 50, 51, 52, 53, 54, 55, 56, 57, 58, 59, 60, 61, 62, 63, 64, 65, 66, 67, 68] (by decide +kernel) (by decide +kernel)
set_option maxRecDepth 20000 in
theorem gX4_weighs_X4_costs : GoodIn wsX4_weighs (wsV RX4 109 RX4 yX4_costs wsX4_costs) := goodIn_app (goodIn_of _ (by decide +kernel)) ggX4_weighs_X4_costs
theorem dX4_weighs_0 : decode cX4_weighs 0 = .ok (.aload_n 0, 1) := by decide +kernel
theorem dX4_weighs_1 : decode cX4_weighs 1 = .ok (.iload_n 1, 1) := by decide +kernel
theorem dX4_weighs_2 : decode cX4_weighs 2 = .ok (.invokevirtual 144, 3) := by decide +kernel
theorem dX4_weighs_5 : decode cX4_weighs 5 = .ok (.iconst 0, 1) := by decide +kernel
theorem dX4_weighs_6 : decode cX4_weighs 6 = .ok (.istore_n 2, 1) := by decide +kernel
theorem dX4_weighs_7 : decode cX4_weighs 7 = .ok (.iload_n 2, 1) := by decide +kernel
theorem dX4_weighs_8 : decode cX4_weighs 8 = .ok (.iconst 5, 1) := by decide +kernel
theorem dX4_weighs_9 : decode cX4_weighs 9 = .ok (.if_icmp .ge 16, 3) := by decide +kernel
theorem dX4_weighs_12 : decode cX4_weighs 12 = .ok (.aload_n 0, 1) := by decide +kernel
theorem dX4_weighs_13 : decode cX4_weighs 13 = .ok (.getfield 55, 3) := by decide +kernel
theorem dX4_weighs_16 : decode cX4_weighs 16 = .ok (.iload_n 2, 1) := by decide +kernel
theorem dX4_weighs_17 : decode cX4_weighs 17 = .ok (.iconst 0, 1) := by decide +kernel
theorem dX4_weighs_18 : decode cX4_weighs 18 = .ok (.iastore, 1) := by decide +kernel
theorem dX4_weighs_19 : decode cX4_weighs 19 = .ok (.iinc 2 1, 3) := by decide +kernel
theorem dX4_weighs_22 : decode cX4_weighs 22 = .ok (.goto (-15), 3) := by decide +kernel
theorem dX4_weighs_25 : decode cX4_weighs 25 = .ok (.aload_n 0, 1) := by decide +kernel
theorem dX4_weighs_26 : decode cX4_weighs 26 = .ok (.iload_n 1, 1) := by decide +kernel
theorem dX4_weighs_27 : decode cX4_weighs 27 = .ok (.sipush 10000, 3) := by decide +kernel
theorem dX4_weighs_30 : decode cX4_weighs 30 = .ok (.invokevirtual 109, 3) := by decide +kernel
theorem dX4_weighs_33 : decode cX4_weighs 33 = .ok (.return_, 1) := by decide +kernel
set_option maxRecDepth 20000 in
theorem ggX4_weight_X4_isWell : GoodIn wsX4_weight wsX4_isWell := goodIn_r _ [6, 7, 8, 9, 5, 10, 64, 65, 66, 67, 68, 69, 70, 71, 72, 73, 74, 75, 76, 77, 78, 79, 80, 81, 82, 83, 84, 85, 86, 87, 88] (by decide +kernel) (by decide +kernel)
set_option maxRecDepth 20000 in
theorem gX4_weight_X4_isWell : GoodIn wsX4_weight (wsV RX4 124 RX4 yX4_isWell wsX4_isWell) := goodIn_app (goodIn_of _ (by decide +kernel)) ggX4_weight_X4_isWell
set_option maxRecDepth 20000 in
theorem ggX4_weight_X4_isPartner : GoodIn wsX4_weight wsX4_isPartner := goodIn_r _ [13, 8, 9, 5, 10] (by decide +kernel) (by decide +kernel)
set_option maxRecDepth 20000 in
theorem gX4_weight_X4_isPartner : GoodIn wsX4_weight (va_wsS RX4 127 yX4_isPartner wsX4_isPartner) := goodIn_app (goodIn_of _ (by decide +kernel)) ggX4_weight_X4_isPartner
set_option maxRecDepth 20000 in
theorem ggX4_weight_X4_goes : GoodIn wsX4_weight wsX4_goes := goodIn_r _ [17, 18, 64, 65, 66, 67, 68, 69, 70, 71, 72, 73, 74, 75, 76, 77, 78, 79, 80, 81, 82, 83, 84, 85, 86, 87, 88] (by decide +kernel) (by decide +kernel)
set_option maxRecDepth 20000 in
theorem gX4_weight_X4_goes : GoodIn wsX4_weight (wsV RX4 116 RX4 yX4_goes wsX4_goes) := goodIn_app (goodIn_of _ (by decide +kernel)) ggX4_weight_X4_goes
set_option maxRecDepth 20000 in
theorem ggX4_weight_X4_weighs : GoodIn wsX4_weight wsX4_weighs := goodIn_r _ [22, 1, 23, 24, 25, 5, 26, 27, 28, 29, 30, 31, 32, 33, 34, 35, 36, 37, 38, 39, 40, 41, 42, 43, 44, 45, 46, 47, 48, 49, 50, 51, 52, 53, 54, 55, 56, 57, 58, 59, 60, 61, 62, 63, 64, 65, 66, 67, 68, 69, 70, 71, 72, 73, 74, 75, 76, 77, 78, 79, 80, 81, 82, 83, 84, 85, 86, 87, 88] (by decide +kernel) (by decide +kernel)
set_option maxRecDepth 20000 in
theorem gX4_weight_X4_weighs : GoodIn wsX4_weight (wsV RX4 150 RX4 yX4_weighs wsX4_weighs) := goodIn_app (goodIn_of _ (by decide +kernel)) ggX4_weight_X4_weighs
theorem dX4_weight_0 : decode cX4_weight 0 = .ok (.aload_n 0, 1) := by decide +kernel
theorem dX4_weight_1 : decode cX4_weight 1 = .ok (.aload_n 0, 1) := by decide +kernel
theorem dX4_weight_2 : decode cX4_weight 2 = .ok (.iload_n 1, 1) := by decide +kernel
theorem dX4_weight_3 : decode cX4_weight 3 = .ok (.invokevirtual 124, 3) := by decide +kernel
theorem dX4_weight_6 : decode cX4_weight 6 = .ok (.ifCond .eq 14, 3) := by decide +kernel
theorem dX4_weight_9 : decode cX4_weight 9 = .ok (.iload_n 2, 1) := by decide +kernel
theorem dX4_weight_10 : decode cX4_weight 10 = .ok (.invokestatic 127, 3) := by decide +kernel
theorem dX4_weight_13 : decode cX4_weight 13 = .ok (.ifCond .eq 7, 3) := by decide +kernel
theorem dX4_weight_16 : decode cX4_weight 16 = .ok (.iconst 1, 1) := by decide +kernel
theorem dX4_weight_17 : decode cX4_weight 17 = .ok (.goto 4, 3) := by decide +kernel
theorem dX4_weight_20 : decode cX4_weight 20 = .ok (.iconst 0, 1) := by decide +kernel
theorem dX4_weight_21 : decode cX4_weight 21 = .ok (.iconst 1, 1) := by decide +kernel
theorem dX4_weight_22 : decode cX4_weight 22 = .ok (.iconst 1, 1) := by decide +kernel
theorem dX4_weight_23 : decode cX4_weight 23 = .ok (.invokevirtual 116, 3) := by decide +kernel
theorem dX4_weight_26 : decode cX4_weight 26 = .ok (.ifCond .ne 5, 3) := by decide +kernel
theorem dX4_weight_29 : decode cX4_weight 29 = .ok (.iconst 0, 1) := by decide +kernel
theorem dX4_weight_30 : decode cX4_weight 30 = .ok (.ireturn, 1) := by decide +kernel
theorem dX4_weight_31 : decode cX4_weight 31 = .ok (.aload_n 0, 1) := by decide +kernel
theorem dX4_weight_32 : decode cX4_weight 32 = .ok (.iload_n 1, 1) := by decide +kernel
theorem dX4_weight_33 : decode cX4_weight 33 = .ok (.invokevirtual 150, 3) := by decide +kernel
theorem dX4_weight_36 : decode cX4_weight 36 = .ok (.aload_n 0, 1) := by decide +kernel
theorem dX4_weight_37 : decode cX4_weight 37 = .ok (.getfield 55, 3) := by decide +kernel
theorem dX4_weight_40 : decode cX4_weight 40 = .ok (.iload_n 2, 1) := by decide +kernel
theorem dX4_weight_41 : decode cX4_weight 41 = .ok (.iaload, 1) := by decide +kernel
theorem dX4_weight_42 : decode cX4_weight 42 = .ok (.ireturn, 1) := by decide +kernel
set_option maxRecDepth 20000 in
theorem ggX4_call_X4_isWell : GoodIn wsX4_call wsX4_isWell := goodIn_r _ [10, 11, 12, 13, 9, 14, 67, 68, 69, 70, 71, 72, 73, 74, 75, 76, 77, 78, 79, 80, 81, 82, 83, 84, 85, 86, 87, 88, 89, 90, 91] (by decide +kernel) (by decide +kernel)
set_option maxRecDepth 20000 in
theorem gX4_call_X4_isWell : GoodIn wsX4_call (wsV RX4 124 RX4 yX4_isWell wsX4_isWell) := goodIn_app (goodIn_of _ (by decide +kernel)) ggX4_call_X4_isWell
set_option maxRecDepth 20000 in
theorem ggX4_call_X4_isAmount : GoodIn wsX4_call wsX4_isAmount := goodIn_r _ [17, 18, 12, 13, 9, 14] (by decide +kernel) (by decide +kernel)
set_option maxRecDepth 20000 in
theorem gX4_call_X4_isAmount : GoodIn wsX4_call (va_wsS RX4 134 yX4_isAmount wsX4_isAmount) := goodIn_app (goodIn_of _ (by decide +kernel)) ggX4_call_X4_isAmount
set_option maxRecDepth 20000 in
theorem ggX4_call_X4_goes : GoodIn wsX4_call wsX4_goes := goodIn_r _ [22, 23, 67, 68, 69, 70, 71, 72, 73, 74, 75, 76, 77, 78, 79, 80, 81, 82, 83, 84, 85, 86, 87, 88, 89, 90, 91] (by decide +kernel) (by decide +kernel)
set_option maxRecDepth 20000 in
theorem gX4_call_X4_goes : GoodIn wsX4_call (wsV RX4 116 RX4 yX4_goes wsX4_goes) := goodIn_app (goodIn_of _ (by decide +kernel)) ggX4_call_X4_goes
set_option maxRecDepth 20000 in
theorem ggX4_call_X4_weighs : GoodIn wsX4_call wsX4_weighs := goodIn_r _ [27, 3, 28, 29, 30, 9, 31, 32, 33, 34, 35, 36, 37, 38, 39, 40, 41, 42, 43, 44, 45, 46, 5, 47, 48, 49, 50, 2, 51, 52, 53, 54, 55, 56, 57, 58, 59, 60, 61, 62, 63, 64, 65, 66, 67, 68, 69, 70, 71, 72, 73, 74, 75, 76, 77, 78, 79, 80, 81, 82, 83, 84, 85, 86, 87, 88, 89, 90, 91] (by decide +kernel) (by decide +kernel)
set_option maxRecDepth 20000 in
theorem gX4_call_X4_weighs : GoodIn wsX4_call (wsV RX4 150 RX4 yX4_weighs wsX4_weighs) := goodIn_app (goodIn_of _ (by decide +kernel)) ggX4_call_X4_weighs
set_option maxRecDepth 20000 in
theorem ggX4_call_X4_divides : GoodIn wsX4_call wsX4_divides := goodIn_r _ [54, 2, 5, 55, 67, 68, 69, 70, 71, 72, 73, 74, 75, 76, 77, 78, 79, 80, 81, 82, 83, 84, 85, 86, 87, 88, 89, 90, 91] (by decide +kernel) (by decide +kernel)
set_option maxRecDepth 20000 in
theorem gX4_call_X4_divides : GoodIn wsX4_call (wsV RX4 90 RX4 yX4_divides wsX4_divides) := goodIn_app (goodIn_of _ (by decide +kernel)) ggX4_call_X4_divides
theorem dX4_call_0 : decode cX4_call 0 = .ok (.aload_n 0, 1) := by decide +kernel
theorem dX4_call_1 : decode cX4_call 1 = .ok (.aload_n 0, 1) := by decide +kernel
theorem dX4_call_2 : decode cX4_call 2 = .ok (.iload_n 1, 1) := by decide +kernel
theorem dX4_call_3 : decode cX4_call 3 = .ok (.invokevirtual 124, 3) := by decide +kernel
theorem dX4_call_6 : decode cX4_call 6 = .ok (.iload_n 2, 1) := by decide +kernel
theorem dX4_call_7 : decode cX4_call 7 = .ok (.invokestatic 134, 3) := by decide +kernel
theorem dX4_call_10 : decode cX4_call 10 = .ok (.aload_n 0, 1) := by decide +kernel
theorem dX4_call_11 : decode cX4_call 11 = .ok (.getfield 86, 3) := by decide +kernel
theorem dX4_call_14 : decode cX4_call 14 = .ok (.bipush 20, 2) := by decide +kernel
theorem dX4_call_16 : decode cX4_call 16 = .ok (.if_icmp .ge 7, 3) := by decide +kernel
theorem dX4_call_19 : decode cX4_call 19 = .ok (.iconst 1, 1) := by decide +kernel
theorem dX4_call_20 : decode cX4_call 20 = .ok (.goto 4, 3) := by decide +kernel
theorem dX4_call_23 : decode cX4_call 23 = .ok (.iconst 0, 1) := by decide +kernel
theorem dX4_call_24 : decode cX4_call 24 = .ok (.invokevirtual 116, 3) := by decide +kernel
theorem dX4_call_27 : decode cX4_call 27 = .ok (.ifCond .ne 5, 3) := by decide +kernel
theorem dX4_call_30 : decode cX4_call 30 = .ok (.iconst 0, 1) := by decide +kernel
theorem dX4_call_31 : decode cX4_call 31 = .ok (.ireturn, 1) := by decide +kernel
theorem dX4_call_32 : decode cX4_call 32 = .ok (.aload_n 0, 1) := by decide +kernel
theorem dX4_call_33 : decode cX4_call 33 = .ok (.iload_n 1, 1) := by decide +kernel
theorem dX4_call_34 : decode cX4_call 34 = .ok (.invokevirtual 150, 3) := by decide +kernel
theorem dX4_call_37 : decode cX4_call 37 = .ok (.iconst 0, 1) := by decide +kernel
theorem dX4_call_38 : decode cX4_call 38 = .ok (.istore_n 3, 1) := by decide +kernel
theorem dX4_call_39 : decode cX4_call 39 = .ok (.iload_n 3, 1) := by decide +kernel
theorem dX4_call_40 : decode cX4_call 40 = .ok (.iconst 5, 1) := by decide +kernel
theorem dX4_call_41 : decode cX4_call 41 = .ok (.if_icmp .ge 21, 3) := by decide +kernel
theorem dX4_call_44 : decode cX4_call 44 = .ok (.aload_n 0, 1) := by decide +kernel
theorem dX4_call_45 : decode cX4_call 45 = .ok (.getfield 61, 3) := by decide +kernel
theorem dX4_call_48 : decode cX4_call 48 = .ok (.iload_n 3, 1) := by decide +kernel
theorem dX4_call_49 : decode cX4_call 49 = .ok (.aload_n 0, 1) := by decide +kernel
theorem dX4_call_50 : decode cX4_call 50 = .ok (.getfield 55, 3) := by decide +kernel
theorem dX4_call_53 : decode cX4_call 53 = .ok (.iload_n 3, 1) := by decide +kernel
theorem dX4_call_54 : decode cX4_call 54 = .ok (.iaload, 1) := by decide +kernel
theorem dX4_call_55 : decode cX4_call 55 = .ok (.iastore, 1) := by decide +kernel
theorem dX4_call_56 : decode cX4_call 56 = .ok (.iinc 3 1, 3) := by decide +kernel
theorem dX4_call_59 : decode cX4_call 59 = .ok (.goto (-20), 3) := by decide +kernel
theorem dX4_call_62 : decode cX4_call 62 = .ok (.aload_n 0, 1) := by decide +kernel
theorem dX4_call_63 : decode cX4_call 63 = .ok (.iload_n 2, 1) := by decide +kernel
theorem dX4_call_64 : decode cX4_call 64 = .ok (.i2l, 1) := by decide +kernel
theorem dX4_call_65 : decode cX4_call 65 = .ok (.invokevirtual 90, 3) := by decide +kernel
theorem dX4_call_68 : decode cX4_call 68 = .ok (.iconst 0, 1) := by decide +kernel
theorem dX4_call_69 : decode cX4_call 69 = .ok (.istore_n 3, 1) := by decide +kernel
theorem dX4_call_70 : decode cX4_call 70 = .ok (.iload_n 3, 1) := by decide +kernel
theorem dX4_call_71 : decode cX4_call 71 = .ok (.iconst 5, 1) := by decide +kernel
theorem dX4_call_72 : decode cX4_call 72 = .ok (.if_icmp .ge 28, 3) := by decide +kernel
theorem dX4_call_75 : decode cX4_call 75 = .ok (.aload_n 0, 1) := by decide +kernel
theorem dX4_call_76 : decode cX4_call 76 = .ok (.getfield 36, 3) := by decide +kernel
theorem dX4_call_79 : decode cX4_call 79 = .ok (.iconst 5, 1) := by decide +kernel
theorem dX4_call_80 : decode cX4_call 80 = .ok (.aload_n 0, 1) := by decide +kernel
theorem dX4_call_81 : decode cX4_call 81 = .ok (.getfield 86, 3) := by decide +kernel
theorem dX4_call_84 : decode cX4_call 84 = .ok (.imul, 1) := by decide +kernel
theorem dX4_call_85 : decode cX4_call 85 = .ok (.iload_n 3, 1) := by decide +kernel
theorem dX4_call_86 : decode cX4_call 86 = .ok (.iadd, 1) := by decide +kernel
theorem dX4_call_87 : decode cX4_call 87 = .ok (.aload_n 0, 1) := by decide +kernel
theorem dX4_call_88 : decode cX4_call 88 = .ok (.getfield 64, 3) := by decide +kernel
theorem dX4_call_91 : decode cX4_call 91 = .ok (.iload_n 3, 1) := by decide +kernel
theorem dX4_call_92 : decode cX4_call 92 = .ok (.iaload, 1) := by decide +kernel
theorem dX4_call_93 : decode cX4_call 93 = .ok (.iastore, 1) := by decide +kernel
theorem dX4_call_94 : decode cX4_call 94 = .ok (.iinc 3 1, 3) := by decide +kernel
theorem dX4_call_97 : decode cX4_call 97 = .ok (.goto (-27), 3) := by decide +kernel
theorem dX4_call_100 : decode cX4_call 100 = .ok (.aload_n 0, 1) := by decide +kernel
theorem dX4_call_101 : decode cX4_call 101 = .ok (.dup, 1) := by decide +kernel
theorem dX4_call_102 : decode cX4_call 102 = .ok (.getfield 86, 3) := by decide +kernel
theorem dX4_call_105 : decode cX4_call 105 = .ok (.iconst 1, 1) := by decide +kernel
theorem dX4_call_106 : decode cX4_call 106 = .ok (.iadd, 1) := by decide +kernel
theorem dX4_call_107 : decode cX4_call 107 = .ok (.putfield 86, 3) := by decide +kernel
theorem dX4_call_110 : decode cX4_call 110 = .ok (.aload_n 0, 1) := by decide +kernel
theorem dX4_call_111 : decode cX4_call 111 = .ok (.getfield 86, 3) := by decide +kernel
theorem dX4_call_114 : decode cX4_call 114 = .ok (.iconst 1, 1) := by decide +kernel
theorem dX4_call_115 : decode cX4_call 115 = .ok (.isub, 1) := by decide +kernel
theorem dX4_call_116 : decode cX4_call 116 = .ok (.ireturn, 1) := by decide +kernel
set_option maxRecDepth 20000 in
theorem ggX4_pay_X4_isCall : GoodIn wsX4_pay wsX4_isCall := goodIn_r _ [7, 8, 9, 10, 6, 11, 20, 21, 22, 23, 24, 25, 26, 27, 28, 29, 30, 31, 32, 33, 34, 35, 36, 37, 38, 39, 40, 41, 42, 43, 44] (by decide +kernel) (by decide +kernel)
set_option maxRecDepth 20000 in
theorem gX4_pay_X4_isCall : GoodIn wsX4_pay (wsV RX4 153 RX4 yX4_isCall wsX4_isCall) := goodIn_app (goodIn_of _ (by decide +kernel)) ggX4_pay_X4_isCall
set_option maxRecDepth 20000 in
theorem ggX4_pay_X4_isPartner : GoodIn wsX4_pay wsX4_isPartner := goodIn_r _ [14, 9, 10, 6, 11] (by decide +kernel) (by decide +kernel)
set_option maxRecDepth 20000 in
theorem gX4_pay_X4_isPartner : GoodIn wsX4_pay (va_wsS RX4 127 yX4_isPartner wsX4_isPartner) := goodIn_app (goodIn_of _ (by decide +kernel)) ggX4_pay_X4_isPartner
set_option maxRecDepth 20000 in
theorem ggX4_pay_X4_goes : GoodIn wsX4_pay wsX4_goes := goodIn_r _ [18, 19, 20, 21, 22, 23, 24, 25, 26, 27, 28, 29, 30, 31, 32, 33, 34, 35, 36, 37, 38, 39, 40, 41, 42, 43, 44] (by decide +kernel) (by decide +kernel)
set_option maxRecDepth 20000 in
theorem gX4_pay_X4_goes : GoodIn wsX4_pay (wsV RX4 116 RX4 yX4_goes wsX4_goes) := goodIn_app (goodIn_of _ (by decide +kernel)) ggX4_pay_X4_goes
theorem dX4_pay_0 : decode cX4_pay 0 = .ok (.aload_n 0, 1) := by decide +kernel
theorem dX4_pay_1 : decode cX4_pay 1 = .ok (.iload_n 1, 1) := by decide +kernel
theorem dX4_pay_2 : decode cX4_pay 2 = .ok (.invokevirtual 153, 3) := by decide +kernel
theorem dX4_pay_5 : decode cX4_pay 5 = .ok (.ifCond .eq 14, 3) := by decide +kernel
theorem dX4_pay_8 : decode cX4_pay 8 = .ok (.iload_n 2, 1) := by decide +kernel
theorem dX4_pay_9 : decode cX4_pay 9 = .ok (.invokestatic 127, 3) := by decide +kernel
theorem dX4_pay_12 : decode cX4_pay 12 = .ok (.ifCond .eq 7, 3) := by decide +kernel
theorem dX4_pay_15 : decode cX4_pay 15 = .ok (.iconst 1, 1) := by decide +kernel
theorem dX4_pay_16 : decode cX4_pay 16 = .ok (.goto 4, 3) := by decide +kernel
theorem dX4_pay_19 : decode cX4_pay 19 = .ok (.iconst 0, 1) := by decide +kernel
theorem dX4_pay_20 : decode cX4_pay 20 = .ok (.istore_n 3, 1) := by decide +kernel
theorem dX4_pay_21 : decode cX4_pay 21 = .ok (.iload_n 3, 1) := by decide +kernel
theorem dX4_pay_22 : decode cX4_pay 22 = .ok (.ifCond .eq 27, 3) := by decide +kernel
theorem dX4_pay_25 : decode cX4_pay 25 = .ok (.aload_n 0, 1) := by decide +kernel
theorem dX4_pay_26 : decode cX4_pay 26 = .ok (.getfield 36, 3) := by decide +kernel
theorem dX4_pay_29 : decode cX4_pay 29 = .ok (.iconst 5, 1) := by decide +kernel
theorem dX4_pay_30 : decode cX4_pay 30 = .ok (.iload_n 1, 1) := by decide +kernel
theorem dX4_pay_31 : decode cX4_pay 31 = .ok (.imul, 1) := by decide +kernel
theorem dX4_pay_32 : decode cX4_pay 32 = .ok (.iload_n 2, 1) := by decide +kernel
theorem dX4_pay_33 : decode cX4_pay 33 = .ok (.iadd, 1) := by decide +kernel
theorem dX4_pay_34 : decode cX4_pay 34 = .ok (.iaload, 1) := by decide +kernel
theorem dX4_pay_35 : decode cX4_pay 35 = .ok (.aload_n 0, 1) := by decide +kernel
theorem dX4_pay_36 : decode cX4_pay 36 = .ok (.getfield 39, 3) := by decide +kernel
theorem dX4_pay_39 : decode cX4_pay 39 = .ok (.iconst 5, 1) := by decide +kernel
theorem dX4_pay_40 : decode cX4_pay 40 = .ok (.iload_n 1, 1) := by decide +kernel
theorem dX4_pay_41 : decode cX4_pay 41 = .ok (.imul, 1) := by decide +kernel
theorem dX4_pay_42 : decode cX4_pay 42 = .ok (.iload_n 2, 1) := by decide +kernel
theorem dX4_pay_43 : decode cX4_pay 43 = .ok (.iadd, 1) := by decide +kernel
theorem dX4_pay_44 : decode cX4_pay 44 = .ok (.iaload, 1) := by decide +kernel
theorem dX4_pay_45 : decode cX4_pay 45 = .ok (.isub, 1) := by decide +kernel
theorem dX4_pay_46 : decode cX4_pay 46 = .ok (.goto 4, 3) := by decide +kernel
theorem dX4_pay_49 : decode cX4_pay 49 = .ok (.iconst 0, 1) := by decide +kernel
theorem dX4_pay_50 : decode cX4_pay 50 = .ok (.istore 4, 2) := by decide +kernel
theorem dX4_pay_52 : decode cX4_pay 52 = .ok (.aload_n 0, 1) := by decide +kernel
theorem dX4_pay_53 : decode cX4_pay 53 = .ok (.iload_n 3, 1) := by decide +kernel
theorem dX4_pay_54 : decode cX4_pay 54 = .ok (.iload 4, 2) := by decide +kernel
theorem dX4_pay_56 : decode cX4_pay 56 = .ok (.ifCond .le 7, 3) := by decide +kernel
theorem dX4_pay_59 : decode cX4_pay 59 = .ok (.iconst 1, 1) := by decide +kernel
theorem dX4_pay_60 : decode cX4_pay 60 = .ok (.goto 4, 3) := by decide +kernel
theorem dX4_pay_63 : decode cX4_pay 63 = .ok (.iconst 0, 1) := by decide +kernel
theorem dX4_pay_64 : decode cX4_pay 64 = .ok (.iconst 1, 1) := by decide +kernel
theorem dX4_pay_65 : decode cX4_pay 65 = .ok (.invokevirtual 116, 3) := by decide +kernel
theorem dX4_pay_68 : decode cX4_pay 68 = .ok (.ifCond .ne 5, 3) := by decide +kernel
theorem dX4_pay_71 : decode cX4_pay 71 = .ok (.iconst 0, 1) := by decide +kernel
theorem dX4_pay_72 : decode cX4_pay 72 = .ok (.ireturn, 1) := by decide +kernel
theorem dX4_pay_73 : decode cX4_pay 73 = .ok (.aload_n 0, 1) := by decide +kernel
theorem dX4_pay_74 : decode cX4_pay 74 = .ok (.getfield 39, 3) := by decide +kernel
theorem dX4_pay_77 : decode cX4_pay 77 = .ok (.iconst 5, 1) := by decide +kernel
theorem dX4_pay_78 : decode cX4_pay 78 = .ok (.iload_n 1, 1) := by decide +kernel
theorem dX4_pay_79 : decode cX4_pay 79 = .ok (.imul, 1) := by decide +kernel
theorem dX4_pay_80 : decode cX4_pay 80 = .ok (.iload_n 2, 1) := by decide +kernel
theorem dX4_pay_81 : decode cX4_pay 81 = .ok (.iadd, 1) := by decide +kernel
theorem dX4_pay_82 : decode cX4_pay 82 = .ok (.dup2, 1) := by decide +kernel
theorem dX4_pay_83 : decode cX4_pay 83 = .ok (.iaload, 1) := by decide +kernel
theorem dX4_pay_84 : decode cX4_pay 84 = .ok (.iload 4, 2) := by decide +kernel
theorem dX4_pay_86 : decode cX4_pay 86 = .ok (.iadd, 1) := by decide +kernel
theorem dX4_pay_87 : decode cX4_pay 87 = .ok (.iastore, 1) := by decide +kernel
theorem dX4_pay_88 : decode cX4_pay 88 = .ok (.iload 4, 2) := by decide +kernel
theorem dX4_pay_90 : decode cX4_pay 90 = .ok (.ireturn, 1) := by decide +kernel
set_option maxRecDepth 20000 in
theorem ggX4_shareOut_X4_isCall : GoodIn wsX4_shareOut wsX4_isCall := goodIn_r _ [10, 11, 12, 13, 9, 14, 25, 26, 27, 28, 29, 30, 31, 32, 33, 34, 35, 36, 37, 38, 39, 40, 41, 42, 43, 44, 45, 46, 47, 48, 49] (by decide +kernel) (by decide +kernel)
set_option maxRecDepth 20000 in
theorem gX4_shareOut_X4_isCall : GoodIn wsX4_shareOut (wsV RX4 153 RX4 yX4_isCall wsX4_isCall) := goodIn_app (goodIn_of _ (by decide +kernel)) ggX4_shareOut_X4_isCall
set_option maxRecDepth 20000 in
theorem ggX4_shareOut_X4_goes : GoodIn wsX4_shareOut wsX4_goes := goodIn_r _ [18, 19, 25, 26, 27, 28, 29, 30, 31, 32, 33, 34, 35, 36, 37, 38, 39, 40, 41, 42, 43, 44, 45, 46, 47, 48, 49] (by decide +kernel) (by decide +kernel)
set_option maxRecDepth 20000 in
theorem gX4_shareOut_X4_goes : GoodIn wsX4_shareOut (wsV RX4 116 RX4 yX4_goes wsX4_goes) := goodIn_app (goodIn_of _ (by decide +kernel)) ggX4_shareOut_X4_goes
set_option maxRecDepth 20000 in
theorem ggX4_shareOut_X4_divides : GoodIn wsX4_shareOut wsX4_divides := goodIn_r _ [23, 2, 5, 24, 25, 26, 27, 28, 29, 30, 31, 32, 33, 34, 35, 36, 37, 38, 39, 40, 41, 42, 43, 44, 45, 46, 47, 48, 49] (by decide +kernel) (by decide +kernel)
set_option maxRecDepth 20000 in
theorem gX4_shareOut_X4_divides : GoodIn wsX4_shareOut (wsV RX4 90 RX4 yX4_divides wsX4_divides) := goodIn_app (goodIn_of _ (by decide +kernel)) ggX4_shareOut_X4_divides
theorem dX4_shareOut_0 : decode cX4_shareOut 0 = .ok (.aload_n 0, 1) := by decide +kernel
theorem dX4_shareOut_1 : decode cX4_shareOut 1 = .ok (.iload_n 1, 1) := by decide +kernel
theorem dX4_shareOut_2 : decode cX4_shareOut 2 = .ok (.invokevirtual 153, 3) := by decide +kernel
theorem dX4_shareOut_5 : decode cX4_shareOut 5 = .ok (.istore_n 2, 1) := by decide +kernel
theorem dX4_shareOut_6 : decode cX4_shareOut 6 = .ok (.iconst 0, 1) := by decide +kernel
theorem dX4_shareOut_7 : decode cX4_shareOut 7 = .ok (.istore_n 3, 1) := by decide +kernel
theorem dX4_shareOut_8 : decode cX4_shareOut 8 = .ok (.iconst 0, 1) := by decide +kernel
theorem dX4_shareOut_9 : decode cX4_shareOut 9 = .ok (.istore 4, 2) := by decide +kernel
theorem dX4_shareOut_11 : decode cX4_shareOut 11 = .ok (.iconst 0, 1) := by decide +kernel
theorem dX4_shareOut_12 : decode cX4_shareOut 12 = .ok (.istore 5, 2) := by decide +kernel
theorem dX4_shareOut_14 : decode cX4_shareOut 14 = .ok (.iload 5, 2) := by decide +kernel
theorem dX4_shareOut_16 : decode cX4_shareOut 16 = .ok (.iconst 5, 1) := by decide +kernel
theorem dX4_shareOut_17 : decode cX4_shareOut 17 = .ok (.if_icmp .ge 101, 3) := by decide +kernel
theorem dX4_shareOut_20 : decode cX4_shareOut 20 = .ok (.iload_n 2, 1) := by decide +kernel
theorem dX4_shareOut_21 : decode cX4_shareOut 21 = .ok (.ifCond .eq 97, 3) := by decide +kernel
theorem dX4_shareOut_24 : decode cX4_shareOut 24 = .ok (.aload_n 0, 1) := by decide +kernel
theorem dX4_shareOut_25 : decode cX4_shareOut 25 = .ok (.getfield 39, 3) := by decide +kernel
theorem dX4_shareOut_28 : decode cX4_shareOut 28 = .ok (.iconst 5, 1) := by decide +kernel
theorem dX4_shareOut_29 : decode cX4_shareOut 29 = .ok (.iload_n 1, 1) := by decide +kernel
theorem dX4_shareOut_30 : decode cX4_shareOut 30 = .ok (.imul, 1) := by decide +kernel
theorem dX4_shareOut_31 : decode cX4_shareOut 31 = .ok (.iload 5, 2) := by decide +kernel
theorem dX4_shareOut_33 : decode cX4_shareOut 33 = .ok (.iadd, 1) := by decide +kernel
theorem dX4_shareOut_34 : decode cX4_shareOut 34 = .ok (.iaload, 1) := by decide +kernel
theorem dX4_shareOut_35 : decode cX4_shareOut 35 = .ok (.ifCond .le 7, 3) := by decide +kernel
theorem dX4_shareOut_38 : decode cX4_shareOut 38 = .ok (.iconst 1, 1) := by decide +kernel
theorem dX4_shareOut_39 : decode cX4_shareOut 39 = .ok (.goto 4, 3) := by decide +kernel
theorem dX4_shareOut_42 : decode cX4_shareOut 42 = .ok (.iconst 0, 1) := by decide +kernel
theorem dX4_shareOut_43 : decode cX4_shareOut 43 = .ok (.istore 6, 2) := by decide +kernel
theorem dX4_shareOut_45 : decode cX4_shareOut 45 = .ok (.iload_n 3, 1) := by decide +kernel
theorem dX4_shareOut_46 : decode cX4_shareOut 46 = .ok (.ifCond .ne 8, 3) := by decide +kernel
theorem dX4_shareOut_49 : decode cX4_shareOut 49 = .ok (.iload 6, 2) := by decide +kernel
theorem dX4_shareOut_51 : decode cX4_shareOut 51 = .ok (.ifCond .eq 7, 3) := by decide +kernel
theorem dX4_shareOut_54 : decode cX4_shareOut 54 = .ok (.iconst 1, 1) := by decide +kernel
theorem dX4_shareOut_55 : decode cX4_shareOut 55 = .ok (.goto 4, 3) := by decide +kernel
theorem dX4_shareOut_58 : decode cX4_shareOut 58 = .ok (.iconst 0, 1) := by decide +kernel
theorem dX4_shareOut_59 : decode cX4_shareOut 59 = .ok (.istore_n 3, 1) := by decide +kernel
theorem dX4_shareOut_60 : decode cX4_shareOut 60 = .ok (.aload_n 0, 1) := by decide +kernel
theorem dX4_shareOut_61 : decode cX4_shareOut 61 = .ok (.getfield 61, 3) := by decide +kernel
theorem dX4_shareOut_64 : decode cX4_shareOut 64 = .ok (.iload 5, 2) := by decide +kernel
theorem dX4_shareOut_66 : decode cX4_shareOut 66 = .ok (.iload 6, 2) := by decide +kernel
theorem dX4_shareOut_68 : decode cX4_shareOut 68 = .ok (.ifCond .eq 17, 3) := by decide +kernel
theorem dX4_shareOut_71 : decode cX4_shareOut 71 = .ok (.aload_n 0, 1) := by decide +kernel
theorem dX4_shareOut_72 : decode cX4_shareOut 72 = .ok (.getfield 36, 3) := by decide +kernel
theorem dX4_shareOut_75 : decode cX4_shareOut 75 = .ok (.iconst 5, 1) := by decide +kernel
theorem dX4_shareOut_76 : decode cX4_shareOut 76 = .ok (.iload_n 1, 1) := by decide +kernel
theorem dX4_shareOut_77 : decode cX4_shareOut 77 = .ok (.imul, 1) := by decide +kernel
theorem dX4_shareOut_78 : decode cX4_shareOut 78 = .ok (.iload 5, 2) := by decide +kernel
theorem dX4_shareOut_80 : decode cX4_shareOut 80 = .ok (.iadd, 1) := by decide +kernel
theorem dX4_shareOut_81 : decode cX4_shareOut 81 = .ok (.iaload, 1) := by decide +kernel
theorem dX4_shareOut_82 : decode cX4_shareOut 82 = .ok (.goto 4, 3) := by decide +kernel
theorem dX4_shareOut_85 : decode cX4_shareOut 85 = .ok (.iconst 0, 1) := by decide +kernel
theorem dX4_shareOut_86 : decode cX4_shareOut 86 = .ok (.iastore, 1) := by decide +kernel
theorem dX4_shareOut_87 : decode cX4_shareOut 87 = .ok (.iload 4, 2) := by decide +kernel
theorem dX4_shareOut_89 : decode cX4_shareOut 89 = .ok (.iload 6, 2) := by decide +kernel
theorem dX4_shareOut_91 : decode cX4_shareOut 91 = .ok (.ifCond .eq 7, 3) := by decide +kernel
theorem dX4_shareOut_94 : decode cX4_shareOut 94 = .ok (.iconst 0, 1) := by decide +kernel
theorem dX4_shareOut_95 : decode cX4_shareOut 95 = .ok (.goto 14, 3) := by decide +kernel
theorem dX4_shareOut_98 : decode cX4_shareOut 98 = .ok (.aload_n 0, 1) := by decide +kernel
theorem dX4_shareOut_99 : decode cX4_shareOut 99 = .ok (.getfield 36, 3) := by decide +kernel
theorem dX4_shareOut_102 : decode cX4_shareOut 102 = .ok (.iconst 5, 1) := by decide +kernel
theorem dX4_shareOut_103 : decode cX4_shareOut 103 = .ok (.iload_n 1, 1) := by decide +kernel
theorem dX4_shareOut_104 : decode cX4_shareOut 104 = .ok (.imul, 1) := by decide +kernel
theorem dX4_shareOut_105 : decode cX4_shareOut 105 = .ok (.iload 5, 2) := by decide +kernel
theorem dX4_shareOut_107 : decode cX4_shareOut 107 = .ok (.iadd, 1) := by decide +kernel
theorem dX4_shareOut_108 : decode cX4_shareOut 108 = .ok (.iaload, 1) := by decide +kernel
theorem dX4_shareOut_109 : decode cX4_shareOut 109 = .ok (.iadd, 1) := by decide +kernel
theorem dX4_shareOut_110 : decode cX4_shareOut 110 = .ok (.istore 4, 2) := by decide +kernel
theorem dX4_shareOut_112 : decode cX4_shareOut 112 = .ok (.iinc 5 1, 3) := by decide +kernel
theorem dX4_shareOut_115 : decode cX4_shareOut 115 = .ok (.goto (-101), 3) := by decide +kernel
theorem dX4_shareOut_118 : decode cX4_shareOut 118 = .ok (.aload_n 0, 1) := by decide +kernel
theorem dX4_shareOut_119 : decode cX4_shareOut 119 = .ok (.iload_n 2, 1) := by decide +kernel
theorem dX4_shareOut_120 : decode cX4_shareOut 120 = .ok (.iload_n 3, 1) := by decide +kernel
theorem dX4_shareOut_121 : decode cX4_shareOut 121 = .ok (.ifCond .eq 12, 3) := by decide +kernel
theorem dX4_shareOut_124 : decode cX4_shareOut 124 = .ok (.iload 4, 2) := by decide +kernel
theorem dX4_shareOut_126 : decode cX4_shareOut 126 = .ok (.ifCond .le 7, 3) := by decide +kernel
theorem dX4_shareOut_129 : decode cX4_shareOut 129 = .ok (.iconst 1, 1) := by decide +kernel
theorem dX4_shareOut_130 : decode cX4_shareOut 130 = .ok (.goto 4, 3) := by decide +kernel
theorem dX4_shareOut_133 : decode cX4_shareOut 133 = .ok (.iconst 0, 1) := by decide +kernel
theorem dX4_shareOut_134 : decode cX4_shareOut 134 = .ok (.iconst 1, 1) := by decide +kernel
theorem dX4_shareOut_135 : decode cX4_shareOut 135 = .ok (.invokevirtual 116, 3) := by decide +kernel
theorem dX4_shareOut_138 : decode cX4_shareOut 138 = .ok (.ifCond .ne 5, 3) := by decide +kernel
theorem dX4_shareOut_141 : decode cX4_shareOut 141 = .ok (.iconst 0, 1) := by decide +kernel
theorem dX4_shareOut_142 : decode cX4_shareOut 142 = .ok (.ireturn, 1) := by decide +kernel
theorem dX4_shareOut_143 : decode cX4_shareOut 143 = .ok (.aload_n 0, 1) := by decide +kernel
theorem dX4_shareOut_144 : decode cX4_shareOut 144 = .ok (.iload 4, 2) := by decide +kernel
theorem dX4_shareOut_146 : decode cX4_shareOut 146 = .ok (.i2l, 1) := by decide +kernel
theorem dX4_shareOut_147 : decode cX4_shareOut 147 = .ok (.invokevirtual 90, 3) := by decide +kernel
theorem dX4_shareOut_150 : decode cX4_shareOut 150 = .ok (.iconst 0, 1) := by decide +kernel
theorem dX4_shareOut_151 : decode cX4_shareOut 151 = .ok (.istore 5, 2) := by decide +kernel
theorem dX4_shareOut_153 : decode cX4_shareOut 153 = .ok (.iload 5, 2) := by decide +kernel
theorem dX4_shareOut_155 : decode cX4_shareOut 155 = .ok (.iconst 5, 1) := by decide +kernel
theorem dX4_shareOut_156 : decode cX4_shareOut 156 = .ok (.if_icmp .ge 84, 3) := by decide +kernel
theorem dX4_shareOut_159 : decode cX4_shareOut 159 = .ok (.iconst 5, 1) := by decide +kernel
theorem dX4_shareOut_160 : decode cX4_shareOut 160 = .ok (.iload_n 1, 1) := by decide +kernel
theorem dX4_shareOut_161 : decode cX4_shareOut 161 = .ok (.imul, 1) := by decide +kernel
theorem dX4_shareOut_162 : decode cX4_shareOut 162 = .ok (.iload 5, 2) := by decide +kernel
theorem dX4_shareOut_164 : decode cX4_shareOut 164 = .ok (.iadd, 1) := by decide +kernel
theorem dX4_shareOut_165 : decode cX4_shareOut 165 = .ok (.istore 6, 2) := by decide +kernel
theorem dX4_shareOut_167 : decode cX4_shareOut 167 = .ok (.aload_n 0, 1) := by decide +kernel
theorem dX4_shareOut_168 : decode cX4_shareOut 168 = .ok (.getfield 42, 3) := by decide +kernel
theorem dX4_shareOut_171 : decode cX4_shareOut 171 = .ok (.iload 5, 2) := by decide +kernel
theorem dX4_shareOut_173 : decode cX4_shareOut 173 = .ok (.dup2, 1) := by decide +kernel
theorem dX4_shareOut_174 : decode cX4_shareOut 174 = .ok (.iaload, 1) := by decide +kernel
theorem dX4_shareOut_175 : decode cX4_shareOut 175 = .ok (.aload_n 0, 1) := by decide +kernel
theorem dX4_shareOut_176 : decode cX4_shareOut 176 = .ok (.getfield 39, 3) := by decide +kernel
theorem dX4_shareOut_179 : decode cX4_shareOut 179 = .ok (.iload 6, 2) := by decide +kernel
theorem dX4_shareOut_181 : decode cX4_shareOut 181 = .ok (.iaload, 1) := by decide +kernel
theorem dX4_shareOut_182 : decode cX4_shareOut 182 = .ok (.ifCond .le 7, 3) := by decide +kernel
theorem dX4_shareOut_185 : decode cX4_shareOut 185 = .ok (.iconst 0, 1) := by decide +kernel
theorem dX4_shareOut_186 : decode cX4_shareOut 186 = .ok (.goto 10, 3) := by decide +kernel
theorem dX4_shareOut_189 : decode cX4_shareOut 189 = .ok (.aload_n 0, 1) := by decide +kernel
theorem dX4_shareOut_190 : decode cX4_shareOut 190 = .ok (.getfield 36, 3) := by decide +kernel
theorem dX4_shareOut_193 : decode cX4_shareOut 193 = .ok (.iload 6, 2) := by decide +kernel
theorem dX4_shareOut_195 : decode cX4_shareOut 195 = .ok (.iaload, 1) := by decide +kernel
theorem dX4_shareOut_196 : decode cX4_shareOut 196 = .ok (.iadd, 1) := by decide +kernel
theorem dX4_shareOut_197 : decode cX4_shareOut 197 = .ok (.iastore, 1) := by decide +kernel
theorem dX4_shareOut_198 : decode cX4_shareOut 198 = .ok (.aload_n 0, 1) := by decide +kernel
theorem dX4_shareOut_199 : decode cX4_shareOut 199 = .ok (.getfield 36, 3) := by decide +kernel
theorem dX4_shareOut_202 : decode cX4_shareOut 202 = .ok (.iload 6, 2) := by decide +kernel
theorem dX4_shareOut_204 : decode cX4_shareOut 204 = .ok (.aload_n 0, 1) := by decide +kernel
theorem dX4_shareOut_205 : decode cX4_shareOut 205 = .ok (.getfield 39, 3) := by decide +kernel
theorem dX4_shareOut_208 : decode cX4_shareOut 208 = .ok (.iload 6, 2) := by decide +kernel
theorem dX4_shareOut_210 : decode cX4_shareOut 210 = .ok (.iaload, 1) := by decide +kernel
theorem dX4_shareOut_211 : decode cX4_shareOut 211 = .ok (.ifCond .le 21, 3) := by decide +kernel
theorem dX4_shareOut_214 : decode cX4_shareOut 214 = .ok (.aload_n 0, 1) := by decide +kernel
theorem dX4_shareOut_215 : decode cX4_shareOut 215 = .ok (.getfield 36, 3) := by decide +kernel
theorem dX4_shareOut_218 : decode cX4_shareOut 218 = .ok (.iload 6, 2) := by decide +kernel
theorem dX4_shareOut_220 : decode cX4_shareOut 220 = .ok (.iaload, 1) := by decide +kernel
theorem dX4_shareOut_221 : decode cX4_shareOut 221 = .ok (.aload_n 0, 1) := by decide +kernel
theorem dX4_shareOut_222 : decode cX4_shareOut 222 = .ok (.getfield 64, 3) := by decide +kernel
theorem dX4_shareOut_225 : decode cX4_shareOut 225 = .ok (.iload 5, 2) := by decide +kernel
theorem dX4_shareOut_227 : decode cX4_shareOut 227 = .ok (.iaload, 1) := by decide +kernel
theorem dX4_shareOut_228 : decode cX4_shareOut 228 = .ok (.iadd, 1) := by decide +kernel
theorem dX4_shareOut_229 : decode cX4_shareOut 229 = .ok (.goto 4, 3) := by decide +kernel
theorem dX4_shareOut_232 : decode cX4_shareOut 232 = .ok (.iconst 0, 1) := by decide +kernel
theorem dX4_shareOut_233 : decode cX4_shareOut 233 = .ok (.iastore, 1) := by decide +kernel
theorem dX4_shareOut_234 : decode cX4_shareOut 234 = .ok (.iinc 5 1, 3) := by decide +kernel
theorem dX4_shareOut_237 : decode cX4_shareOut 237 = .ok (.goto (-84), 3) := by decide +kernel
theorem dX4_shareOut_240 : decode cX4_shareOut 240 = .ok (.iload 4, 2) := by decide +kernel
theorem dX4_shareOut_242 : decode cX4_shareOut 242 = .ok (.ireturn, 1) := by decide +kernel
set_option maxRecDepth 20000 in
theorem ggX4_asked_X4_isCall : GoodIn wsX4_asked wsX4_isCall := goodIn_r _ [6, 7, 8, 9, 5, 10, 19, 20, 21, 22, 23, 24, 25, 26, 27, 28, 29, 30, 31, 32, 33, 34, 35, 36, 37, 38, 39, 40, 41, 42, 43] (by decide +kernel) (by decide +kernel)
set_option maxRecDepth 20000 in
theorem gX4_asked_X4_isCall : GoodIn wsX4_asked (wsV RX4 153 RX4 yX4_isCall wsX4_isCall) := goodIn_app (goodIn_of _ (by decide +kernel)) ggX4_asked_X4_isCall
set_option maxRecDepth 20000 in
theorem ggX4_asked_X4_isPartner : GoodIn wsX4_asked wsX4_isPartner := goodIn_r _ [13, 8, 9, 5, 10] (by decide +kernel) (by decide +kernel)
set_option maxRecDepth 20000 in
theorem gX4_asked_X4_isPartner : GoodIn wsX4_asked (va_wsS RX4 127 yX4_isPartner wsX4_isPartner) := goodIn_app (goodIn_of _ (by decide +kernel)) ggX4_asked_X4_isPartner
set_option maxRecDepth 20000 in
theorem ggX4_asked_X4_goes : GoodIn wsX4_asked wsX4_goes := goodIn_r _ [17, 18, 19, 20, 21, 22, 23, 24, 25, 26, 27, 28, 29, 30, 31, 32, 33, 34, 35, 36, 37, 38, 39, 40, 41, 42, 43] (by decide +kernel) (by decide +kernel)
set_option maxRecDepth 20000 in
theorem gX4_asked_X4_goes : GoodIn wsX4_asked (wsV RX4 116 RX4 yX4_goes wsX4_goes) := goodIn_app (goodIn_of _ (by decide +kernel)) ggX4_asked_X4_goes
theorem dX4_asked_0 : decode cX4_asked 0 = .ok (.aload_n 0, 1) := by decide +kernel
theorem dX4_asked_1 : decode cX4_asked 1 = .ok (.aload_n 0, 1) := by decide +kernel
theorem dX4_asked_2 : decode cX4_asked 2 = .ok (.iload_n 1, 1) := by decide +kernel
theorem dX4_asked_3 : decode cX4_asked 3 = .ok (.invokevirtual 153, 3) := by decide +kernel
theorem dX4_asked_6 : decode cX4_asked 6 = .ok (.ifCond .eq 14, 3) := by decide +kernel
theorem dX4_asked_9 : decode cX4_asked 9 = .ok (.iload_n 2, 1) := by decide +kernel
theorem dX4_asked_10 : decode cX4_asked 10 = .ok (.invokestatic 127, 3) := by decide +kernel
theorem dX4_asked_13 : decode cX4_asked 13 = .ok (.ifCond .eq 7, 3) := by decide +kernel
theorem dX4_asked_16 : decode cX4_asked 16 = .ok (.iconst 1, 1) := by decide +kernel
theorem dX4_asked_17 : decode cX4_asked 17 = .ok (.goto 4, 3) := by decide +kernel
theorem dX4_asked_20 : decode cX4_asked 20 = .ok (.iconst 0, 1) := by decide +kernel
theorem dX4_asked_21 : decode cX4_asked 21 = .ok (.iconst 1, 1) := by decide +kernel
theorem dX4_asked_22 : decode cX4_asked 22 = .ok (.iconst 1, 1) := by decide +kernel
theorem dX4_asked_23 : decode cX4_asked 23 = .ok (.invokevirtual 116, 3) := by decide +kernel
theorem dX4_asked_26 : decode cX4_asked 26 = .ok (.ifCond .eq 16, 3) := by decide +kernel
theorem dX4_asked_29 : decode cX4_asked 29 = .ok (.aload_n 0, 1) := by decide +kernel
theorem dX4_asked_30 : decode cX4_asked 30 = .ok (.getfield 36, 3) := by decide +kernel
theorem dX4_asked_33 : decode cX4_asked 33 = .ok (.iconst 5, 1) := by decide +kernel
theorem dX4_asked_34 : decode cX4_asked 34 = .ok (.iload_n 1, 1) := by decide +kernel
theorem dX4_asked_35 : decode cX4_asked 35 = .ok (.imul, 1) := by decide +kernel
theorem dX4_asked_36 : decode cX4_asked 36 = .ok (.iload_n 2, 1) := by decide +kernel
theorem dX4_asked_37 : decode cX4_asked 37 = .ok (.iadd, 1) := by decide +kernel
theorem dX4_asked_38 : decode cX4_asked 38 = .ok (.iaload, 1) := by decide +kernel
theorem dX4_asked_39 : decode cX4_asked 39 = .ok (.goto 4, 3) := by decide +kernel
theorem dX4_asked_42 : decode cX4_asked 42 = .ok (.iconst 0, 1) := by decide +kernel
theorem dX4_asked_43 : decode cX4_asked 43 = .ok (.ireturn, 1) := by decide +kernel
theorem dX4_allPaid_0 : decode cX4_allPaid 0 = .ok (.iconst 0, 1) := by decide +kernel
theorem dX4_allPaid_1 : decode cX4_allPaid 1 = .ok (.istore_n 2, 1) := by decide +kernel
theorem dX4_allPaid_2 : decode cX4_allPaid 2 = .ok (.iconst 0, 1) := by decide +kernel
theorem dX4_allPaid_3 : decode cX4_allPaid 3 = .ok (.istore_n 3, 1) := by decide +kernel
theorem dX4_allPaid_4 : decode cX4_allPaid 4 = .ok (.iload_n 3, 1) := by decide +kernel
theorem dX4_allPaid_5 : decode cX4_allPaid 5 = .ok (.aload_n 0, 1) := by decide +kernel
theorem dX4_allPaid_6 : decode cX4_allPaid 6 = .ok (.getfield 86, 3) := by decide +kernel
theorem dX4_allPaid_9 : decode cX4_allPaid 9 = .ok (.if_icmp .ge 22, 3) := by decide +kernel
theorem dX4_allPaid_12 : decode cX4_allPaid 12 = .ok (.iload_n 2, 1) := by decide +kernel
theorem dX4_allPaid_13 : decode cX4_allPaid 13 = .ok (.aload_n 0, 1) := by decide +kernel
theorem dX4_allPaid_14 : decode cX4_allPaid 14 = .ok (.getfield 39, 3) := by decide +kernel
theorem dX4_allPaid_17 : decode cX4_allPaid 17 = .ok (.iconst 5, 1) := by decide +kernel
theorem dX4_allPaid_18 : decode cX4_allPaid 18 = .ok (.iload_n 3, 1) := by decide +kernel
theorem dX4_allPaid_19 : decode cX4_allPaid 19 = .ok (.imul, 1) := by decide +kernel
theorem dX4_allPaid_20 : decode cX4_allPaid 20 = .ok (.iload_n 1, 1) := by decide +kernel
theorem dX4_allPaid_21 : decode cX4_allPaid 21 = .ok (.iadd, 1) := by decide +kernel
theorem dX4_allPaid_22 : decode cX4_allPaid 22 = .ok (.iaload, 1) := by decide +kernel
theorem dX4_allPaid_23 : decode cX4_allPaid 23 = .ok (.iadd, 1) := by decide +kernel
theorem dX4_allPaid_24 : decode cX4_allPaid 24 = .ok (.istore_n 2, 1) := by decide +kernel
theorem dX4_allPaid_25 : decode cX4_allPaid 25 = .ok (.iinc 3 1, 3) := by decide +kernel
theorem dX4_allPaid_28 : decode cX4_allPaid 28 = .ok (.goto (-24), 3) := by decide +kernel
theorem dX4_allPaid_31 : decode cX4_allPaid 31 = .ok (.iload_n 2, 1) := by decide +kernel
theorem dX4_allPaid_32 : decode cX4_allPaid 32 = .ok (.ireturn, 1) := by decide +kernel
set_option maxRecDepth 20000 in
theorem ggX4_paid_X4_isPartner : GoodIn wsX4_paid wsX4_isPartner := goodIn_r _ [4, 5, 6, 3, 7] (by decide +kernel) (by decide +kernel)
set_option maxRecDepth 20000 in
theorem gX4_paid_X4_isPartner : GoodIn wsX4_paid (va_wsS RX4 127 yX4_isPartner wsX4_isPartner) := goodIn_app (goodIn_of _ (by decide +kernel)) ggX4_paid_X4_isPartner
set_option maxRecDepth 20000 in
theorem ggX4_paid_X4_goes : GoodIn wsX4_paid wsX4_goes := goodIn_r _ [11, 12, 19, 20, 21, 22, 23, 24, 25, 26, 27, 28, 29, 30, 31, 32, 33, 34, 35, 36, 37, 38, 39, 40, 41, 42, 43] (by decide +kernel) (by decide +kernel)
set_option maxRecDepth 20000 in
theorem gX4_paid_X4_goes : GoodIn wsX4_paid (wsV RX4 116 RX4 yX4_goes wsX4_goes) := goodIn_app (goodIn_of _ (by decide +kernel)) ggX4_paid_X4_goes
set_option maxRecDepth 20000 in
theorem ggX4_paid_X4_allPaid : GoodIn wsX4_paid wsX4_allPaid := goodIn_r _ [16, 17, 18, 19, 20, 21, 22, 23, 24, 25, 26, 27, 28, 29, 30, 31, 32, 33, 34, 35, 36, 37, 38, 39, 40, 41, 42, 43] (by decide +kernel) (by decide +kernel)
set_option maxRecDepth 20000 in
theorem gX4_paid_X4_allPaid : GoodIn wsX4_paid (wsV RX4 156 RX4 yX4_allPaid wsX4_allPaid) := goodIn_app (goodIn_of _ (by decide +kernel)) ggX4_paid_X4_allPaid
theorem dX4_paid_0 : decode cX4_paid 0 = .ok (.aload_n 0, 1) := by decide +kernel
theorem dX4_paid_1 : decode cX4_paid 1 = .ok (.iload_n 1, 1) := by decide +kernel
theorem dX4_paid_2 : decode cX4_paid 2 = .ok (.invokestatic 127, 3) := by decide +kernel
theorem dX4_paid_5 : decode cX4_paid 5 = .ok (.iconst 1, 1) := by decide +kernel
theorem dX4_paid_6 : decode cX4_paid 6 = .ok (.iconst 1, 1) := by decide +kernel
theorem dX4_paid_7 : decode cX4_paid 7 = .ok (.invokevirtual 116, 3) := by decide +kernel
theorem dX4_paid_10 : decode cX4_paid 10 = .ok (.ifCond .eq 11, 3) := by decide +kernel
theorem dX4_paid_13 : decode cX4_paid 13 = .ok (.aload_n 0, 1) := by decide +kernel
theorem dX4_paid_14 : decode cX4_paid 14 = .ok (.iload_n 1, 1) := by decide +kernel
theorem dX4_paid_15 : decode cX4_paid 15 = .ok (.invokevirtual 156, 3) := by decide +kernel
theorem dX4_paid_18 : decode cX4_paid 18 = .ok (.goto 4, 3) := by decide +kernel
theorem dX4_paid_21 : decode cX4_paid 21 = .ok (.iconst 0, 1) := by decide +kernel
theorem dX4_paid_22 : decode cX4_paid 22 = .ok (.ireturn, 1) := by decide +kernel
set_option maxRecDepth 20000 in
theorem ggX4_owes_X4_isPartner : GoodIn wsX4_owes wsX4_isPartner := goodIn_r _ [5, 6, 7, 4, 8] (by decide +kernel) (by decide +kernel)
set_option maxRecDepth 20000 in
theorem gX4_owes_X4_isPartner : GoodIn wsX4_owes (va_wsS RX4 127 yX4_isPartner wsX4_isPartner) := goodIn_app (goodIn_of _ (by decide +kernel)) ggX4_owes_X4_isPartner
set_option maxRecDepth 20000 in
theorem ggX4_owes_X4_goes : GoodIn wsX4_owes wsX4_goes := goodIn_r _ [12, 13, 14, 15, 16, 17, 18, 19, 20, 21, 22, 23, 24, 25, 26, 27, 28, 29, 30, 31, 32, 33, 34, 35, 36, 37, 38] (by decide +kernel) (by decide +kernel)
set_option maxRecDepth 20000 in
theorem gX4_owes_X4_goes : GoodIn wsX4_owes (wsV RX4 116 RX4 yX4_goes wsX4_goes) := goodIn_app (goodIn_of _ (by decide +kernel)) ggX4_owes_X4_goes
theorem dX4_owes_0 : decode cX4_owes 0 = .ok (.aload_n 0, 1) := by decide +kernel
theorem dX4_owes_1 : decode cX4_owes 1 = .ok (.iload_n 1, 1) := by decide +kernel
theorem dX4_owes_2 : decode cX4_owes 2 = .ok (.invokestatic 127, 3) := by decide +kernel
theorem dX4_owes_5 : decode cX4_owes 5 = .ok (.iconst 1, 1) := by decide +kernel
theorem dX4_owes_6 : decode cX4_owes 6 = .ok (.iconst 1, 1) := by decide +kernel
theorem dX4_owes_7 : decode cX4_owes 7 = .ok (.invokevirtual 116, 3) := by decide +kernel
theorem dX4_owes_10 : decode cX4_owes 10 = .ok (.ifCond .eq 12, 3) := by decide +kernel
theorem dX4_owes_13 : decode cX4_owes 13 = .ok (.aload_n 0, 1) := by decide +kernel
theorem dX4_owes_14 : decode cX4_owes 14 = .ok (.getfield 42, 3) := by decide +kernel
theorem dX4_owes_17 : decode cX4_owes 17 = .ok (.iload_n 1, 1) := by decide +kernel
theorem dX4_owes_18 : decode cX4_owes 18 = .ok (.iaload, 1) := by decide +kernel
theorem dX4_owes_19 : decode cX4_owes 19 = .ok (.goto 4, 3) := by decide +kernel
theorem dX4_owes_22 : decode cX4_owes 22 = .ok (.iconst 0, 1) := by decide +kernel
theorem dX4_owes_23 : decode cX4_owes 23 = .ok (.ireturn, 1) := by decide +kernel
set_option maxRecDepth 20000 in
theorem ggX4_balance_X4_isPartner : GoodIn wsX4_balance wsX4_isPartner := goodIn_r _ [8, 9, 10, 7, 11] (by decide +kernel) (by decide +kernel)
set_option maxRecDepth 20000 in
theorem gX4_balance_X4_isPartner : GoodIn wsX4_balance (va_wsS RX4 127 yX4_isPartner wsX4_isPartner) := goodIn_app (goodIn_of _ (by decide +kernel)) ggX4_balance_X4_isPartner
set_option maxRecDepth 20000 in
theorem ggX4_balance_X4_goes : GoodIn wsX4_balance wsX4_goes := goodIn_r _ [15, 16, 63, 64, 65, 66, 67, 68, 69, 70, 71, 72, 73, 74, 75, 76, 77, 78, 79, 80, 81, 82, 83, 84, 85, 86, 87] (by decide +kernel) (by decide +kernel)
set_option maxRecDepth 20000 in
theorem gX4_balance_X4_goes : GoodIn wsX4_balance (wsV RX4 116 RX4 yX4_goes wsX4_goes) := goodIn_app (goodIn_of _ (by decide +kernel)) ggX4_balance_X4_goes
set_option maxRecDepth 20000 in
theorem ggX4_balance_X4_allPaid : GoodIn wsX4_balance wsX4_allPaid := goodIn_r _ [20, 21, 22, 63, 64, 65, 66, 67, 68, 69, 70, 71, 72, 73, 74, 75, 76, 77, 78, 79, 80, 81, 82, 83, 84, 85, 86, 87] (by decide +kernel) (by decide +kernel)
set_option maxRecDepth 20000 in
theorem gX4_balance_X4_allPaid : GoodIn wsX4_balance (wsV RX4 156 RX4 yX4_allPaid wsX4_allPaid) := goodIn_app (goodIn_of _ (by decide +kernel)) ggX4_balance_X4_allPaid
set_option maxRecDepth 20000 in
theorem ggX4_balance_X4_works : GoodIn wsX4_balance wsX4_works := goodIn_r _ [26, 27, 28, 29, 30, 31, 4, 3, 32, 33, 34, 35, 36, 37, 38, 7, 39, 40, 41, 42, 43, 44, 45, 46, 47, 48, 49, 50, 51, 52, 53, 54, 55, 56, 57, 58, 59, 60, 61, 62, 63, 64, 65, 66, 67, 68, 69, 70, 71, 72, 73, 74, 75, 76, 77, 78, 79, 80, 81, 82, 83, 84, 85, 86, 87] (by decide +kernel) (by decide +kernel)
set_option maxRecDepth 20000 in
theorem gX4_balance_X4_works : GoodIn wsX4_balance (wsV RX4 144 RX4 yX4_works wsX4_works) := goodIn_app (goodIn_of _ (by decide +kernel)) ggX4_balance_X4_works
theorem dX4_balance_0 : decode cX4_balance 0 = .ok (.aload_n 0, 1) := by decide +kernel
theorem dX4_balance_1 : decode cX4_balance 1 = .ok (.iload_n 1, 1) := by decide +kernel
theorem dX4_balance_2 : decode cX4_balance 2 = .ok (.invokestatic 127, 3) := by decide +kernel
theorem dX4_balance_5 : decode cX4_balance 5 = .ok (.iconst 1, 1) := by decide +kernel
theorem dX4_balance_6 : decode cX4_balance 6 = .ok (.iconst 1, 1) := by decide +kernel
theorem dX4_balance_7 : decode cX4_balance 7 = .ok (.invokevirtual 116, 3) := by decide +kernel
theorem dX4_balance_10 : decode cX4_balance 10 = .ok (.ifCond .ne 5, 3) := by decide +kernel
theorem dX4_balance_13 : decode cX4_balance 13 = .ok (.lconst 0, 1) := by decide +kernel
theorem dX4_balance_14 : decode cX4_balance 14 = .ok (.lreturn, 1) := by decide +kernel
theorem dX4_balance_15 : decode cX4_balance 15 = .ok (.aload_n 0, 1) := by decide +kernel
theorem dX4_balance_16 : decode cX4_balance 16 = .ok (.iload_n 1, 1) := by decide +kernel
theorem dX4_balance_17 : decode cX4_balance 17 = .ok (.invokevirtual 156, 3) := by decide +kernel
theorem dX4_balance_20 : decode cX4_balance 20 = .ok (.i2l, 1) := by decide +kernel
theorem dX4_balance_21 : decode cX4_balance 21 = .ok (.aload_n 0, 1) := by decide +kernel
theorem dX4_balance_22 : decode cX4_balance 22 = .ok (.getfield 42, 3) := by decide +kernel
theorem dX4_balance_25 : decode cX4_balance 25 = .ok (.iload_n 1, 1) := by decide +kernel
theorem dX4_balance_26 : decode cX4_balance 26 = .ok (.iaload, 1) := by decide +kernel
theorem dX4_balance_27 : decode cX4_balance 27 = .ok (.i2l, 1) := by decide +kernel
theorem dX4_balance_28 : decode cX4_balance 28 = .ok (.lsub, 1) := by decide +kernel
theorem dX4_balance_29 : decode cX4_balance 29 = .ok (.lstore_n 2, 1) := by decide +kernel
theorem dX4_balance_30 : decode cX4_balance 30 = .ok (.iconst 0, 1) := by decide +kernel
theorem dX4_balance_31 : decode cX4_balance 31 = .ok (.istore 4, 2) := by decide +kernel
theorem dX4_balance_33 : decode cX4_balance 33 = .ok (.iload 4, 2) := by decide +kernel
theorem dX4_balance_35 : decode cX4_balance 35 = .ok (.aload_n 0, 1) := by decide +kernel
theorem dX4_balance_36 : decode cX4_balance 36 = .ok (.getfield 80, 3) := by decide +kernel
theorem dX4_balance_39 : decode cX4_balance 39 = .ok (.if_icmp .ge 32, 3) := by decide +kernel
theorem dX4_balance_42 : decode cX4_balance 42 = .ok (.aload_n 0, 1) := by decide +kernel
theorem dX4_balance_43 : decode cX4_balance 43 = .ok (.iload 4, 2) := by decide +kernel
theorem dX4_balance_45 : decode cX4_balance 45 = .ok (.invokevirtual 144, 3) := by decide +kernel
theorem dX4_balance_48 : decode cX4_balance 48 = .ok (.lload_n 2, 1) := by decide +kernel
theorem dX4_balance_49 : decode cX4_balance 49 = .ok (.aload_n 0, 1) := by decide +kernel
theorem dX4_balance_50 : decode cX4_balance 50 = .ok (.getfield 58, 3) := by decide +kernel
theorem dX4_balance_53 : decode cX4_balance 53 = .ok (.iload_n 1, 1) := by decide +kernel
theorem dX4_balance_54 : decode cX4_balance 54 = .ok (.iaload, 1) := by decide +kernel
theorem dX4_balance_55 : decode cX4_balance 55 = .ok (.aload_n 0, 1) := by decide +kernel
theorem dX4_balance_56 : decode cX4_balance 56 = .ok (.getfield 55, 3) := by decide +kernel
theorem dX4_balance_59 : decode cX4_balance 59 = .ok (.iload_n 1, 1) := by decide +kernel
theorem dX4_balance_60 : decode cX4_balance 60 = .ok (.iaload, 1) := by decide +kernel
theorem dX4_balance_61 : decode cX4_balance 61 = .ok (.isub, 1) := by decide +kernel
theorem dX4_balance_62 : decode cX4_balance 62 = .ok (.i2l, 1) := by decide +kernel
theorem dX4_balance_63 : decode cX4_balance 63 = .ok (.ladd, 1) := by decide +kernel
theorem dX4_balance_64 : decode cX4_balance 64 = .ok (.lstore_n 2, 1) := by decide +kernel
theorem dX4_balance_65 : decode cX4_balance 65 = .ok (.iinc 4 1, 3) := by decide +kernel
theorem dX4_balance_68 : decode cX4_balance 68 = .ok (.goto (-35), 3) := by decide +kernel
theorem dX4_balance_71 : decode cX4_balance 71 = .ok (.lload_n 2, 1) := by decide +kernel
theorem dX4_balance_72 : decode cX4_balance 72 = .ok (.lreturn, 1) := by decide +kernel
