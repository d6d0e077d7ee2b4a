theorem dX10_init_0 : decode cX10_init 0 = .ok (.aload_n 0, 1) := by decide +kernel
theorem dX10_init_1 : decode cX10_init 1 = .ok (.invokespecial 1, 3) := by decide +kernel
theorem dX10_init_4 : decode cX10_init 4 = .ok (.aload_n 0, 1) := by decide +kernel
theorem dX10_init_5 : decode cX10_init 5 = .ok (.iconst 4, 1) := by decide +kernel
theorem dX10_init_6 : decode cX10_init 6 = .ok (.newarray .int, 2) := by decide +kernel
theorem dX10_init_8 : decode cX10_init 8 = .ok (.dup, 1) := by decide +kernel
theorem dX10_init_9 : decode cX10_init 9 = .ok (.iconst 0, 1) := by decide +kernel
theorem dX10_init_10 : decode cX10_init 10 = .ok (.bipush (-9), 2) := by decide +kernel
theorem dX10_init_12 : decode cX10_init 12 = .ok (.iastore, 1) := by decide +kernel
theorem dX10_init_13 : decode cX10_init 13 = .ok (.dup, 1) := by decide +kernel
theorem dX10_init_14 : decode cX10_init 14 = .ok (.iconst 1, 1) := by decide +kernel
theorem dX10_init_15 : decode cX10_init 15 = .ok (.bipush (-9), 2) := by decide +kernel
theorem dX10_init_17 : decode cX10_init 17 = .ok (.iastore, 1) := by decide +kernel
theorem dX10_init_18 : decode cX10_init 18 = .ok (.dup, 1) := by decide +kernel
theorem dX10_init_19 : decode cX10_init 19 = .ok (.iconst 2, 1) := by decide +kernel
theorem dX10_init_20 : decode cX10_init 20 = .ok (.bipush (-9), 2) := by decide +kernel
theorem dX10_init_22 : decode cX10_init 22 = .ok (.iastore, 1) := by decide +kernel
theorem dX10_init_23 : decode cX10_init 23 = .ok (.dup, 1) := by decide +kernel
theorem dX10_init_24 : decode cX10_init 24 = .ok (.iconst 3, 1) := by decide +kernel
theorem dX10_init_25 : decode cX10_init 25 = .ok (.bipush (-9), 2) := by decide +kernel
theorem dX10_init_27 : decode cX10_init 27 = .ok (.iastore, 1) := by decide +kernel
theorem dX10_init_28 : decode cX10_init 28 = .ok (.putfield 9, 3) := by decide +kernel
theorem dX10_init_31 : decode cX10_init 31 = .ok (.aload_n 0, 1) := by decide +kernel
theorem dX10_init_32 : decode cX10_init 32 = .ok (.iconst 4, 1) := by decide +kernel
theorem dX10_init_33 : decode cX10_init 33 = .ok (.newarray .int, 2) := by decide +kernel
theorem dX10_init_35 : decode cX10_init 35 = .ok (.putfield 13, 3) := by decide +kernel
theorem dX10_init_38 : decode cX10_init 38 = .ok (.aload_n 0, 1) := by decide +kernel
theorem dX10_init_39 : decode cX10_init 39 = .ok (.sipush 240, 3) := by decide +kernel
theorem dX10_init_42 : decode cX10_init 42 = .ok (.newarray .int, 2) := by decide +kernel
theorem dX10_init_44 : decode cX10_init 44 = .ok (.putfield 16, 3) := by decide +kernel
theorem dX10_init_47 : decode cX10_init 47 = .ok (.aload_n 0, 1) := by decide +kernel
theorem dX10_init_48 : decode cX10_init 48 = .ok (.iconst 3, 1) := by decide +kernel
theorem dX10_init_49 : decode cX10_init 49 = .ok (.newarray .int, 2) := by decide +kernel
theorem dX10_init_51 : decode cX10_init 51 = .ok (.putfield 19, 3) := by decide +kernel
theorem dX10_init_54 : decode cX10_init 54 = .ok (.aload_n 0, 1) := by decide +kernel
theorem dX10_init_55 : decode cX10_init 55 = .ok (.bipush 6, 2) := by decide +kernel
theorem dX10_init_57 : decode cX10_init 57 = .ok (.newarray .int, 2) := by decide +kernel
theorem dX10_init_59 : decode cX10_init 59 = .ok (.putfield 22, 3) := by decide +kernel
theorem dX10_init_62 : decode cX10_init 62 = .ok (.aload_n 0, 1) := by decide +kernel
theorem dX10_init_63 : decode cX10_init 63 = .ok (.bipush 6, 2) := by decide +kernel
theorem dX10_init_65 : decode cX10_init 65 = .ok (.newarray .int, 2) := by decide +kernel
theorem dX10_init_67 : decode cX10_init 67 = .ok (.putfield 25, 3) := by decide +kernel
theorem dX10_init_70 : decode cX10_init 70 = .ok (.aload_n 0, 1) := by decide +kernel
theorem dX10_init_71 : decode cX10_init 71 = .ok (.bipush 6, 2) := by decide +kernel
theorem dX10_init_73 : decode cX10_init 73 = .ok (.newarray .int, 2) := by decide +kernel
theorem dX10_init_75 : decode cX10_init 75 = .ok (.putfield 28, 3) := by decide +kernel
theorem dX10_init_78 : decode cX10_init 78 = .ok (.aload_n 0, 1) := by decide +kernel
theorem dX10_init_79 : decode cX10_init 79 = .ok (.bipush 6, 2) := by decide +kernel
theorem dX10_init_81 : decode cX10_init 81 = .ok (.newarray .int, 2) := by decide +kernel
theorem dX10_init_83 : decode cX10_init 83 = .ok (.putfield 31, 3) := by decide +kernel
theorem dX10_init_86 : decode cX10_init 86 = .ok (.aload_n 0, 1) := by decide +kernel
theorem dX10_init_87 : decode cX10_init 87 = .ok (.iconst 3, 1) := by decide +kernel
theorem dX10_init_88 : decode cX10_init 88 = .ok (.newarray .int, 2) := by decide +kernel
theorem dX10_init_90 : decode cX10_init 90 = .ok (.putfield 34, 3) := by decide +kernel
theorem dX10_init_93 : decode cX10_init 93 = .ok (.aload_n 0, 1) := by decide +kernel
theorem dX10_init_94 : decode cX10_init 94 = .ok (.bipush 24, 2) := by decide +kernel
theorem dX10_init_96 : decode cX10_init 96 = .ok (.newarray .int, 2) := by decide +kernel
theorem dX10_init_98 : decode cX10_init 98 = .ok (.putfield 37, 3) := by decide +kernel
theorem dX10_init_101 : decode cX10_init 101 = .ok (.aload_n 0, 1) := by decide +kernel
theorem dX10_init_102 : decode cX10_init 102 = .ok (.bipush 6, 2) := by decide +kernel
theorem dX10_init_104 : decode cX10_init 104 = .ok (.newarray .int, 2) := by decide +kernel
theorem dX10_init_106 : decode cX10_init 106 = .ok (.putfield 40, 3) := by decide +kernel
theorem dX10_init_109 : decode cX10_init 109 = .ok (.aload_n 0, 1) := by decide +kernel
theorem dX10_init_110 : decode cX10_init 110 = .ok (.bipush 6, 2) := by decide +kernel
theorem dX10_init_112 : decode cX10_init 112 = .ok (.newarray .int, 2) := by decide +kernel
theorem dX10_init_114 : decode cX10_init 114 = .ok (.putfield 43, 3) := by decide +kernel
theorem dX10_init_117 : decode cX10_init 117 = .ok (.aload_n 0, 1) := by decide +kernel
theorem dX10_init_118 : decode cX10_init 118 = .ok (.bipush 7, 2) := by decide +kernel
theorem dX10_init_120 : decode cX10_init 120 = .ok (.newarray .int, 2) := by decide +kernel
theorem dX10_init_122 : decode cX10_init 122 = .ok (.putfield 46, 3) := by decide +kernel
theorem dX10_init_125 : decode cX10_init 125 = .ok (.aload_n 0, 1) := by decide +kernel
theorem dX10_init_126 : decode cX10_init 126 = .ok (.bipush 7, 2) := by decide +kernel
theorem dX10_init_128 : decode cX10_init 128 = .ok (.newarray .int, 2) := by decide +kernel
theorem dX10_init_130 : decode cX10_init 130 = .ok (.putfield 49, 3) := by decide +kernel
theorem dX10_init_133 : decode cX10_init 133 = .ok (.aload_n 0, 1) := by decide +kernel
theorem dX10_init_134 : decode cX10_init 134 = .ok (.iconst 3, 1) := by decide +kernel
theorem dX10_init_135 : decode cX10_init 135 = .ok (.newarray .int, 2) := by decide +kernel
theorem dX10_init_137 : decode cX10_init 137 = .ok (.putfield 52, 3) := by decide +kernel
theorem dX10_init_140 : decode cX10_init 140 = .ok (.aload_n 0, 1) := by decide +kernel
theorem dX10_init_141 : decode cX10_init 141 = .ok (.iconst 3, 1) := by decide +kernel
theorem dX10_init_142 : decode cX10_init 142 = .ok (.newarray .int, 2) := by decide +kernel
theorem dX10_init_144 : decode cX10_init 144 = .ok (.putfield 55, 3) := by decide +kernel
theorem dX10_init_147 : decode cX10_init 147 = .ok (.aload_n 0, 1) := by decide +kernel
theorem dX10_init_148 : decode cX10_init 148 = .ok (.bipush 8, 2) := by decide +kernel
theorem dX10_init_150 : decode cX10_init 150 = .ok (.newarray .int, 2) := by decide +kernel
theorem dX10_init_152 : decode cX10_init 152 = .ok (.putfield 58, 3) := by decide +kernel
theorem dX10_init_155 : decode cX10_init 155 = .ok (.aload_n 0, 1) := by decide +kernel
theorem dX10_init_156 : decode cX10_init 156 = .ok (.bipush 8, 2) := by decide +kernel
theorem dX10_init_158 : decode cX10_init 158 = .ok (.newarray .int, 2) := by decide +kernel
theorem dX10_init_160 : decode cX10_init 160 = .ok (.putfield 61, 3) := by decide +kernel
theorem dX10_init_163 : decode cX10_init 163 = .ok (.aload_n 0, 1) := by decide +kernel
theorem dX10_init_164 : decode cX10_init 164 = .ok (.bipush 8, 2) := by decide +kernel
theorem dX10_init_166 : decode cX10_init 166 = .ok (.newarray .int, 2) := by decide +kernel
theorem dX10_init_168 : decode cX10_init 168 = .ok (.putfield 64, 3) := by decide +kernel
theorem dX10_init_171 : decode cX10_init 171 = .ok (.return_, 1) := by decide +kernel
theorem dX10_fails_0 : decode cX10_fails 0 = .ok (.aload_n 0, 1) := by decide +kernel
theorem dX10_fails_1 : decode cX10_fails 1 = .ok (.iload_n 1, 1) := by decide +kernel
theorem dX10_fails_2 : decode cX10_fails 2 = .ok (.putfield 67, 3) := by decide +kernel
theorem dX10_fails_5 : decode cX10_fails 5 = .ok (.bipush (-10), 2) := by decide +kernel
theorem dX10_fails_7 : decode cX10_fails 7 = .ok (.iload_n 1, 1) := by decide +kernel
theorem dX10_fails_8 : decode cX10_fails 8 = .ok (.isub, 1) := by decide +kernel
theorem dX10_fails_9 : decode cX10_fails 9 = .ok (.ireturn, 1) := by decide +kernel
theorem dX10_lost_0 : decode cX10_lost 0 = .ok (.aload_n 0, 1) := by decide +kernel
theorem dX10_lost_1 : decode cX10_lost 1 = .ok (.iload_n 1, 1) := by decide +kernel
theorem dX10_lost_2 : decode cX10_lost 2 = .ok (.putfield 67, 3) := by decide +kernel
theorem dX10_lost_5 : decode cX10_lost 5 = .ok (.ldc2_w 71, 3) := by decide +kernel
theorem dX10_lost_8 : decode cX10_lost 8 = .ok (.lreturn, 1) := by decide +kernel
theorem dX10_within_0 : decode cX10_within 0 = .ok (.iload_n 0, 1) := by decide +kernel
theorem dX10_within_1 : decode cX10_within 1 = .ok (.iload_n 1, 1) := by decide +kernel
theorem dX10_within_2 : decode cX10_within 2 = .ok (.if_icmp .lt 12, 3) := by decide +kernel
theorem dX10_within_5 : decode cX10_within 5 = .ok (.iload_n 0, 1) := by decide +kernel
theorem dX10_within_6 : decode cX10_within 6 = .ok (.iload_n 2, 1) := by decide +kernel
theorem dX10_within_7 : decode cX10_within 7 = .ok (.if_icmp .gt 7, 3) := by decide +kernel
theorem dX10_within_10 : decode cX10_within 10 = .ok (.iconst 1, 1) := by decide +kernel
theorem dX10_within_11 : decode cX10_within 11 = .ok (.goto 4, 3) := by decide +kernel
theorem dX10_within_14 : decode cX10_within 14 = .ok (.iconst 0, 1) := by decide +kernel
theorem dX10_within_15 : decode cX10_within 15 = .ok (.ireturn, 1) := by decide +kernel
set_option maxRecDepth 20000 in
theorem ggX10_isSheet_X10_within : GoodIn wsX10_isSheet wsX10_within := goodIn_r _ [4] (by decide +kernel) (by decide +kernel)
set_option maxRecDepth 20000 in
theorem gX10_isSheet_X10_within : GoodIn wsX10_isSheet (va_wsS RX10 73 yX10_within wsX10_within) := goodIn_app (goodIn_of _ (by decide +kernel)) ggX10_isSheet_X10_within
theorem dX10_isSheet_0 : decode cX10_isSheet 0 = .ok (.iload_n 0, 1) := by decide +kernel
theorem dX10_isSheet_1 : decode cX10_isSheet 1 = .ok (.iconst 0, 1) := by decide +kernel
theorem dX10_isSheet_2 : decode cX10_isSheet 2 = .ok (.iconst 3, 1) := by decide +kernel
theorem dX10_isSheet_3 : decode cX10_isSheet 3 = .ok (.invokestatic 73, 3) := by decide +kernel
theorem dX10_isSheet_6 : decode cX10_isSheet 6 = .ok (.ireturn, 1) := by decide +kernel
set_option maxRecDepth 20000 in
theorem ggX10_isSort_X10_within : GoodIn wsX10_isSort wsX10_within := goodIn_r _ [4] (by decide +kernel) (by decide +kernel)
set_option maxRecDepth 20000 in
theorem gX10_isSort_X10_within : GoodIn wsX10_isSort (va_wsS RX10 73 yX10_within wsX10_within) := goodIn_app (goodIn_of _ (by decide +kernel)) ggX10_isSort_X10_within
theorem dX10_isSort_0 : decode cX10_isSort 0 = .ok (.iload_n 0, 1) := by decide +kernel
theorem dX10_isSort_1 : decode cX10_isSort 1 = .ok (.iconst 0, 1) := by decide +kernel
theorem dX10_isSort_2 : decode cX10_isSort 2 = .ok (.iconst 2, 1) := by decide +kernel
theorem dX10_isSort_3 : decode cX10_isSort 3 = .ok (.invokestatic 73, 3) := by decide +kernel
theorem dX10_isSort_6 : decode cX10_isSort 6 = .ok (.ireturn, 1) := by decide +kernel
theorem dX10_against_0 : decode cX10_against 0 = .ok (.aload_n 0, 1) := by decide +kernel
theorem dX10_against_1 : decode cX10_against 1 = .ok (.getfield 9, 3) := by decide +kernel
theorem dX10_against_4 : decode cX10_against 4 = .ok (.iload_n 1, 1) := by decide +kernel
theorem dX10_against_5 : decode cX10_against 5 = .ok (.iaload, 1) := by decide +kernel
theorem dX10_against_6 : decode cX10_against 6 = .ok (.bipush (-9), 2) := by decide +kernel
theorem dX10_against_8 : decode cX10_against 8 = .ok (.if_icmp .eq 15, 3) := by decide +kernel
theorem dX10_against_11 : decode cX10_against 11 = .ok (.aload_n 0, 1) := by decide +kernel
theorem dX10_against_12 : decode cX10_against 12 = .ok (.getfield 9, 3) := by decide +kernel
theorem dX10_against_15 : decode cX10_against 15 = .ok (.iload_n 1, 1) := by decide +kernel
theorem dX10_against_16 : decode cX10_against 16 = .ok (.iaload, 1) := by decide +kernel
theorem dX10_against_17 : decode cX10_against 17 = .ok (.iload_n 2, 1) := by decide +kernel
theorem dX10_against_18 : decode cX10_against 18 = .ok (.if_icmp .eq 5, 3) := by decide +kernel
theorem dX10_against_21 : decode cX10_against 21 = .ok (.iconst 2, 1) := by decide +kernel
theorem dX10_against_22 : decode cX10_against 22 = .ok (.ireturn, 1) := by decide +kernel
theorem dX10_against_23 : decode cX10_against 23 = .ok (.aload_n 0, 1) := by decide +kernel
theorem dX10_against_24 : decode cX10_against 24 = .ok (.getfield 9, 3) := by decide +kernel
theorem dX10_against_27 : decode cX10_against 27 = .ok (.iload_n 1, 1) := by decide +kernel
theorem dX10_against_28 : decode cX10_against 28 = .ok (.iaload, 1) := by decide +kernel
theorem dX10_against_29 : decode cX10_against 29 = .ok (.bipush (-9), 2) := by decide +kernel
theorem dX10_against_31 : decode cX10_against 31 = .ok (.if_icmp .ne 5, 3) := by decide +kernel
theorem dX10_against_34 : decode cX10_against 34 = .ok (.iconst 1, 1) := by decide +kernel
theorem dX10_against_35 : decode cX10_against 35 = .ok (.ireturn, 1) := by decide +kernel
theorem dX10_against_36 : decode cX10_against 36 = .ok (.iload 4, 2) := by decide +kernel
theorem dX10_against_38 : decode cX10_against 38 = .ok (.ifCond .ge 5, 3) := by decide +kernel
theorem dX10_against_41 : decode cX10_against 41 = .ok (.iconst 4, 1) := by decide +kernel
theorem dX10_against_42 : decode cX10_against 42 = .ok (.ireturn, 1) := by decide +kernel
theorem dX10_against_43 : decode cX10_against 43 = .ok (.iload_n 3, 1) := by decide +kernel
theorem dX10_against_44 : decode cX10_against 44 = .ok (.ifCond .lt 26, 3) := by decide +kernel
theorem dX10_against_47 : decode cX10_against 47 = .ok (.iload_n 3, 1) := by decide +kernel
theorem dX10_against_48 : decode cX10_against 48 = .ok (.aload_n 0, 1) := by decide +kernel
theorem dX10_against_49 : decode cX10_against 49 = .ok (.getfield 13, 3) := by decide +kernel
theorem dX10_against_52 : decode cX10_against 52 = .ok (.iload_n 1, 1) := by decide +kernel
theorem dX10_against_53 : decode cX10_against 53 = .ok (.iaload, 1) := by decide +kernel
theorem dX10_against_54 : decode cX10_against 54 = .ok (.if_icmp .gt 16, 3) := by decide +kernel
theorem dX10_against_57 : decode cX10_against 57 = .ok (.iload 4, 2) := by decide +kernel
theorem dX10_against_59 : decode cX10_against 59 = .ok (.aload_n 0, 1) := by decide +kernel
theorem dX10_against_60 : decode cX10_against 60 = .ok (.getfield 13, 3) := by decide +kernel
theorem dX10_against_63 : decode cX10_against 63 = .ok (.iload_n 1, 1) := by decide +kernel
theorem dX10_against_64 : decode cX10_against 64 = .ok (.iaload, 1) := by decide +kernel
theorem dX10_against_65 : decode cX10_against 65 = .ok (.iload_n 3, 1) := by decide +kernel
theorem dX10_against_66 : decode cX10_against 66 = .ok (.isub, 1) := by decide +kernel
theorem dX10_against_67 : decode cX10_against 67 = .ok (.if_icmp .le 7, 3) := by decide +kernel
theorem dX10_against_70 : decode cX10_against 70 = .ok (.iconst 3, 1) := by decide +kernel
theorem dX10_against_71 : decode cX10_against 71 = .ok (.goto 4, 3) := by decide +kernel
theorem dX10_against_74 : decode cX10_against 74 = .ok (.iconst 0, 1) := by decide +kernel
theorem dX10_against_75 : decode cX10_against 75 = .ok (.ireturn, 1) := by decide +kernel
theorem dX10_isPerson_0 : decode cX10_isPerson 0 = .ok (.iload_n 1, 1) := by decide +kernel
theorem dX10_isPerson_1 : decode cX10_isPerson 1 = .ok (.ifCond .lt 15, 3) := by decide +kernel
theorem dX10_isPerson_4 : decode cX10_isPerson 4 = .ok (.iload_n 1, 1) := by decide +kernel
theorem dX10_isPerson_5 : decode cX10_isPerson 5 = .ok (.aload_n 0, 1) := by decide +kernel
theorem dX10_isPerson_6 : decode cX10_isPerson 6 = .ok (.getfield 77, 3) := by decide +kernel
theorem dX10_isPerson_9 : decode cX10_isPerson 9 = .ok (.if_icmp .ge 7, 3) := by decide +kernel
theorem dX10_isPerson_12 : decode cX10_isPerson 12 = .ok (.iconst 1, 1) := by decide +kernel
theorem dX10_isPerson_13 : decode cX10_isPerson 13 = .ok (.goto 4, 3) := by decide +kernel
theorem dX10_isPerson_16 : decode cX10_isPerson 16 = .ok (.iconst 0, 1) := by decide +kernel
theorem dX10_isPerson_17 : decode cX10_isPerson 17 = .ok (.ireturn, 1) := by decide +kernel
theorem dX10_isMatter_0 : decode cX10_isMatter 0 = .ok (.aload_n 0, 1) := by decide +kernel
theorem dX10_isMatter_1 : decode cX10_isMatter 1 = .ok (.getfield 77, 3) := by decide +kernel
theorem dX10_isMatter_4 : decode cX10_isMatter 4 = .ok (.ifCond .le 16, 3) := by decide +kernel
theorem dX10_isMatter_7 : decode cX10_isMatter 7 = .ok (.iload_n 1, 1) := by decide +kernel
theorem dX10_isMatter_8 : decode cX10_isMatter 8 = .ok (.ifCond .lt 12, 3) := by decide +kernel
theorem dX10_isMatter_11 : decode cX10_isMatter 11 = .ok (.iload_n 1, 1) := by decide +kernel
theorem dX10_isMatter_12 : decode cX10_isMatter 12 = .ok (.iconst 3, 1) := by decide +kernel
theorem dX10_isMatter_13 : decode cX10_isMatter 13 = .ok (.if_icmp .ge 7, 3) := by decide +kernel
theorem dX10_isMatter_16 : decode cX10_isMatter 16 = .ok (.iconst 1, 1) := by decide +kernel
theorem dX10_isMatter_17 : decode cX10_isMatter 17 = .ok (.goto 4, 3) := by decide +kernel
theorem dX10_isMatter_20 : decode cX10_isMatter 20 = .ok (.iconst 0, 1) := by decide +kernel
theorem dX10_isMatter_21 : decode cX10_isMatter 21 = .ok (.ireturn, 1) := by decide +kernel
theorem dX10_isOf_0 : decode cX10_isOf 0 = .ok (.iload_n 0, 1) := by decide +kernel
theorem dX10_isOf_1 : decode cX10_isOf 1 = .ok (.iload_n 1, 1) := by decide +kernel
theorem dX10_isOf_2 : decode cX10_isOf 2 = .ok (.ishr, 1) := by decide +kernel
theorem dX10_isOf_3 : decode cX10_isOf 3 = .ok (.iconst 1, 1) := by decide +kernel
theorem dX10_isOf_4 : decode cX10_isOf 4 = .ok (.iand, 1) := by decide +kernel
theorem dX10_isOf_5 : decode cX10_isOf 5 = .ok (.iconst 1, 1) := by decide +kernel
theorem dX10_isOf_6 : decode cX10_isOf 6 = .ok (.if_icmp .ne 7, 3) := by decide +kernel
theorem dX10_isOf_9 : decode cX10_isOf 9 = .ok (.iconst 1, 1) := by decide +kernel
theorem dX10_isOf_10 : decode cX10_isOf 10 = .ok (.goto 4, 3) := by decide +kernel
theorem dX10_isOf_13 : decode cX10_isOf 13 = .ok (.iconst 0, 1) := by decide +kernel
theorem dX10_isOf_14 : decode cX10_isOf 14 = .ok (.ireturn, 1) := by decide +kernel
set_option maxRecDepth 20000 in
theorem ggX10_digit_X10_within : GoodIn wsX10_digit wsX10_within := goodIn_r _ [6] (by decide +kernel) (by decide +kernel)
set_option maxRecDepth 20000 in
theorem gX10_digit_X10_within : GoodIn wsX10_digit (va_wsS RX10 73 yX10_within wsX10_within) := goodIn_app (goodIn_of _ (by decide +kernel)) ggX10_digit_X10_within
theorem dX10_digit_0 : decode cX10_digit 0 = .ok (.aload_n 0, 1) := by decide +kernel
theorem dX10_digit_1 : decode cX10_digit 1 = .ok (.getfield 80, 3) := by decide +kernel
theorem dX10_digit_4 : decode cX10_digit 4 = .ok (.iload_n 1, 1) := by decide +kernel
theorem dX10_digit_5 : decode cX10_digit 5 = .ok (.if_icmp .ge 24, 3) := by decide +kernel
theorem dX10_digit_8 : decode cX10_digit 8 = .ok (.aload_n 0, 1) := by decide +kernel
theorem dX10_digit_9 : decode cX10_digit 9 = .ok (.getfield 16, 3) := by decide +kernel
theorem dX10_digit_12 : decode cX10_digit 12 = .ok (.aload_n 0, 1) := by decide +kernel
theorem dX10_digit_13 : decode cX10_digit 13 = .ok (.getfield 80, 3) := by decide +kernel
theorem dX10_digit_16 : decode cX10_digit 16 = .ok (.iaload, 1) := by decide +kernel
theorem dX10_digit_17 : decode cX10_digit 17 = .ok (.bipush 48, 2) := by decide +kernel
theorem dX10_digit_19 : decode cX10_digit 19 = .ok (.bipush 48, 2) := by decide +kernel
theorem dX10_digit_21 : decode cX10_digit 21 = .ok (.iload_n 2, 1) := by decide +kernel
theorem dX10_digit_22 : decode cX10_digit 22 = .ok (.iadd, 1) := by decide +kernel
theorem dX10_digit_23 : decode cX10_digit 23 = .ok (.invokestatic 73, 3) := by decide +kernel
theorem dX10_digit_26 : decode cX10_digit 26 = .ok (.ifCond .ne 6, 3) := by decide +kernel
theorem dX10_digit_29 : decode cX10_digit 29 = .ok (.bipush (-9), 2) := by decide +kernel
theorem dX10_digit_31 : decode cX10_digit 31 = .ok (.ireturn, 1) := by decide +kernel
theorem dX10_digit_32 : decode cX10_digit 32 = .ok (.aload_n 0, 1) := by decide +kernel
theorem dX10_digit_33 : decode cX10_digit 33 = .ok (.dup, 1) := by decide +kernel
theorem dX10_digit_34 : decode cX10_digit 34 = .ok (.getfield 80, 3) := by decide +kernel
theorem dX10_digit_37 : decode cX10_digit 37 = .ok (.iconst 1, 1) := by decide +kernel
theorem dX10_digit_38 : decode cX10_digit 38 = .ok (.iadd, 1) := by decide +kernel
theorem dX10_digit_39 : decode cX10_digit 39 = .ok (.putfield 80, 3) := by decide +kernel
theorem dX10_digit_42 : decode cX10_digit 42 = .ok (.aload_n 0, 1) := by decide +kernel
theorem dX10_digit_43 : decode cX10_digit 43 = .ok (.getfield 16, 3) := by decide +kernel
theorem dX10_digit_46 : decode cX10_digit 46 = .ok (.aload_n 0, 1) := by decide +kernel
theorem dX10_digit_47 : decode cX10_digit 47 = .ok (.getfield 80, 3) := by decide +kernel
theorem dX10_digit_50 : decode cX10_digit 50 = .ok (.iconst 1, 1) := by decide +kernel
theorem dX10_digit_51 : decode cX10_digit 51 = .ok (.isub, 1) := by decide +kernel
theorem dX10_digit_52 : decode cX10_digit 52 = .ok (.iaload, 1) := by decide +kernel
theorem dX10_digit_53 : decode cX10_digit 53 = .ok (.bipush 48, 2) := by decide +kernel
theorem dX10_digit_55 : decode cX10_digit 55 = .ok (.isub, 1) := by decide +kernel
theorem dX10_digit_56 : decode cX10_digit 56 = .ok (.ireturn, 1) := by decide +kernel
theorem dX10_isSign_0 : decode cX10_isSign 0 = .ok (.aload_n 0, 1) := by decide +kernel
theorem dX10_isSign_1 : decode cX10_isSign 1 = .ok (.getfield 80, 3) := by decide +kernel
theorem dX10_isSign_4 : decode cX10_isSign 4 = .ok (.iload_n 1, 1) := by decide +kernel
theorem dX10_isSign_5 : decode cX10_isSign 5 = .ok (.if_icmp .ge 16, 3) := by decide +kernel
theorem dX10_isSign_8 : decode cX10_isSign 8 = .ok (.aload_n 0, 1) := by decide +kernel
theorem dX10_isSign_9 : decode cX10_isSign 9 = .ok (.getfield 16, 3) := by decide +kernel
theorem dX10_isSign_12 : decode cX10_isSign 12 = .ok (.aload_n 0, 1) := by decide +kernel
theorem dX10_isSign_13 : decode cX10_isSign 13 = .ok (.getfield 80, 3) := by decide +kernel
theorem dX10_isSign_16 : decode cX10_isSign 16 = .ok (.iaload, 1) := by decide +kernel
theorem dX10_isSign_17 : decode cX10_isSign 17 = .ok (.iload_n 2, 1) := by decide +kernel
theorem dX10_isSign_18 : decode cX10_isSign 18 = .ok (.if_icmp .eq 5, 3) := by decide +kernel
theorem dX10_isSign_21 : decode cX10_isSign 21 = .ok (.iconst 0, 1) := by decide +kernel
theorem dX10_isSign_22 : decode cX10_isSign 22 = .ok (.ireturn, 1) := by decide +kernel
theorem dX10_isSign_23 : decode cX10_isSign 23 = .ok (.aload_n 0, 1) := by decide +kernel
theorem dX10_isSign_24 : decode cX10_isSign 24 = .ok (.dup, 1) := by decide +kernel
theorem dX10_isSign_25 : decode cX10_isSign 25 = .ok (.getfield 80, 3) := by decide +kernel
theorem dX10_isSign_28 : decode cX10_isSign 28 = .ok (.iconst 1, 1) := by decide +kernel
theorem dX10_isSign_29 : decode cX10_isSign 29 = .ok (.iadd, 1) := by decide +kernel
theorem dX10_isSign_30 : decode cX10_isSign 30 = .ok (.putfield 80, 3) := by decide +kernel
theorem dX10_isSign_33 : decode cX10_isSign 33 = .ok (.iconst 1, 1) := by decide +kernel
theorem dX10_isSign_34 : decode cX10_isSign 34 = .ok (.ireturn, 1) := by decide +kernel
set_option maxRecDepth 20000 in
theorem ggX10_province_X10_isSheet : GoodIn wsX10_province wsX10_isSheet := goodIn_r _ [7, 8, 9, 6, 10] (by decide +kernel) (by decide +kernel)
set_option maxRecDepth 20000 in
theorem gX10_province_X10_isSheet : GoodIn wsX10_province (va_wsS RX10 83 yX10_isSheet wsX10_isSheet) := goodIn_app (goodIn_of _ (by decide +kernel)) ggX10_province_X10_isSheet
set_option maxRecDepth 20000 in
theorem ggX10_province_X10_isSort : GoodIn wsX10_province wsX10_isSort := goodIn_r _ [13, 8, 9, 6, 10] (by decide +kernel) (by decide +kernel)
set_option maxRecDepth 20000 in
theorem gX10_province_X10_isSort : GoodIn wsX10_province (va_wsS RX10 87 yX10_isSort wsX10_isSort) := goodIn_app (goodIn_of _ (by decide +kernel)) ggX10_province_X10_isSort
set_option maxRecDepth 20000 in
theorem ggX10_province_X10_against : GoodIn wsX10_province wsX10_against := goodIn_r _ [17, 18, 19, 56, 57, 58, 59, 60, 61, 62, 63, 64, 65, 66, 67, 68, 69, 70, 71, 72, 73, 74, 75, 76, 77, 78, 79, 80, 81, 82, 83, 84, 85, 86, 87] (by decide +kernel) (by decide +kernel)
set_option maxRecDepth 20000 in
theorem gX10_province_X10_against : GoodIn wsX10_province (wsV RX10 90 RX10 yX10_against wsX10_against) := goodIn_app (goodIn_of _ (by decide +kernel)) ggX10_province_X10_against
set_option maxRecDepth 20000 in
theorem ggX10_province_X10_fails : GoodIn wsX10_province wsX10_fails := goodIn_r _ [23, 1, 56, 57, 58, 59, 60, 61, 62, 63, 64, 65, 66, 67, 68, 69, 70, 71, 72, 73, 74, 75, 76, 77, 78, 79, 80, 81, 82, 83, 84, 85, 86, 87] (by decide +kernel) (by decide +kernel)
set_option maxRecDepth 20000 in
theorem gX10_province_X10_fails : GoodIn wsX10_province (wsV RX10 94 RX10 yX10_fails wsX10_fails) := goodIn_app (goodIn_of _ (by decide +kernel)) ggX10_province_X10_fails
set_option maxRecDepth 20000 in
theorem ggX10_province_X10_readProvince : GoodIn wsX10_province wsX10_readProvince := goodIn_r _ [27, 28, 29, 2, 30, 31, 32, 6, 33, 34, 35, 36, 37, 38, 8, 9, 10, 39, 40, 41, 42, 43, 56, 57, 58, 59, 60, 61, 62, 63, 64, 65, 66, 67, 68, 69, 70, 71, 72, 73, 74, 75, 76, 77, 78, 79, 80, 81, 82, 83, 84, 85, 86, 87] (by decide +kernel) (by decide +kernel)
set_option maxRecDepth 20000 in
theorem gX10_province_X10_readProvince : GoodIn wsX10_province (wsV RX10 98 RX10 yX10_readProvince wsX10_readProvince) := goodIn_app (goodIn_of _ (by decide +kernel)) ggX10_province_X10_readProvince
set_option maxRecDepth 20000 in
theorem ggX10_province_X10_takeProvince : GoodIn wsX10_province wsX10_takeProvince := goodIn_r _ [47, 48, 29, 28, 3, 49, 43, 50, 51, 52, 53, 54, 55, 56, 57, 58, 59, 60, 61, 62, 63, 64, 65, 66, 67, 68, 69, 70, 71, 72, 73, 74, 75, 76, 77, 78, 79, 80, 81, 82, 83, 84, 85, 86, 87] (by decide +kernel) (by decide +kernel)
set_option maxRecDepth 20000 in
theorem gX10_province_X10_takeProvince : GoodIn wsX10_province (wsV RX10 101 RX10 yX10_takeProvince wsX10_takeProvince) := goodIn_app (goodIn_of _ (by decide +kernel)) ggX10_province_X10_takeProvince
theorem dX10_province_0 : decode cX10_province 0 = .ok (.aload_n 0, 1) := by decide +kernel
theorem dX10_province_1 : decode cX10_province 1 = .ok (.iconst 0, 1) := by decide +kernel
theorem dX10_province_2 : decode cX10_province 2 = .ok (.putfield 67, 3) := by decide +kernel
theorem dX10_province_5 : decode cX10_province 5 = .ok (.iload_n 1, 1) := by decide +kernel
theorem dX10_province_6 : decode cX10_province 6 = .ok (.invokestatic 83, 3) := by decide +kernel
theorem dX10_province_9 : decode cX10_province 9 = .ok (.ifCond .ne 5, 3) := by decide +kernel
theorem dX10_province_12 : decode cX10_province 12 = .ok (.iconst (-1), 1) := by decide +kernel
theorem dX10_province_13 : decode cX10_province 13 = .ok (.ireturn, 1) := by decide +kernel
theorem dX10_province_14 : decode cX10_province 14 = .ok (.iload_n 2, 1) := by decide +kernel
theorem dX10_province_15 : decode cX10_province 15 = .ok (.invokestatic 87, 3) := by decide +kernel
theorem dX10_province_18 : decode cX10_province 18 = .ok (.ifCond .ne 6, 3) := by decide +kernel
theorem dX10_province_21 : decode cX10_province 21 = .ok (.bipush (-2), 2) := by decide +kernel
theorem dX10_province_23 : decode cX10_province 23 = .ok (.ireturn, 1) := by decide +kernel
theorem dX10_province_24 : decode cX10_province 24 = .ok (.aload_n 0, 1) := by decide +kernel
theorem dX10_province_25 : decode cX10_province 25 = .ok (.iload_n 1, 1) := by decide +kernel
theorem dX10_province_26 : decode cX10_province 26 = .ok (.iload_n 2, 1) := by decide +kernel
theorem dX10_province_27 : decode cX10_province 27 = .ok (.iload_n 3, 1) := by decide +kernel
theorem dX10_province_28 : decode cX10_province 28 = .ok (.iload 4, 2) := by decide +kernel
theorem dX10_province_30 : decode cX10_province 30 = .ok (.invokevirtual 90, 3) := by decide +kernel
theorem dX10_province_33 : decode cX10_province 33 = .ok (.istore 5, 2) := by decide +kernel
theorem dX10_province_35 : decode cX10_province 35 = .ok (.iload 5, 2) := by decide +kernel
theorem dX10_province_37 : decode cX10_province 37 = .ok (.ifCond .eq 10, 3) := by decide +kernel
theorem dX10_province_40 : decode cX10_province 40 = .ok (.aload_n 0, 1) := by decide +kernel
theorem dX10_province_41 : decode cX10_province 41 = .ok (.iload 5, 2) := by decide +kernel
theorem dX10_province_43 : decode cX10_province 43 = .ok (.invokevirtual 94, 3) := by decide +kernel
theorem dX10_province_46 : decode cX10_province 46 = .ok (.ireturn, 1) := by decide +kernel
theorem dX10_province_47 : decode cX10_province 47 = .ok (.bipush 60, 2) := by decide +kernel
theorem dX10_province_49 : decode cX10_province 49 = .ok (.iload_n 1, 1) := by decide +kernel
theorem dX10_province_50 : decode cX10_province 50 = .ok (.imul, 1) := by decide +kernel
theorem dX10_province_51 : decode cX10_province 51 = .ok (.iload_n 3, 1) := by decide +kernel
theorem dX10_province_52 : decode cX10_province 52 = .ok (.iadd, 1) := by decide +kernel
theorem dX10_province_53 : decode cX10_province 53 = .ok (.istore 6, 2) := by decide +kernel
theorem dX10_province_55 : decode cX10_province 55 = .ok (.aload_n 0, 1) := by decide +kernel
theorem dX10_province_56 : decode cX10_province 56 = .ok (.iload 6, 2) := by decide +kernel
theorem dX10_province_58 : decode cX10_province 58 = .ok (.putfield 80, 3) := by decide +kernel
theorem dX10_province_61 : decode cX10_province 61 = .ok (.aload_n 0, 1) := by decide +kernel
theorem dX10_province_62 : decode cX10_province 62 = .ok (.iload 6, 2) := by decide +kernel
theorem dX10_province_64 : decode cX10_province 64 = .ok (.iload 4, 2) := by decide +kernel
theorem dX10_province_66 : decode cX10_province 66 = .ok (.iadd, 1) := by decide +kernel
theorem dX10_province_67 : decode cX10_province 67 = .ok (.invokevirtual 98, 3) := by decide +kernel
theorem dX10_province_70 : decode cX10_province 70 = .ok (.ifCond .ne 14, 3) := by decide +kernel
theorem dX10_province_73 : decode cX10_province 73 = .ok (.bipush (-100), 2) := by decide +kernel
theorem dX10_province_75 : decode cX10_province 75 = .ok (.aload_n 0, 1) := by decide +kernel
theorem dX10_province_76 : decode cX10_province 76 = .ok (.getfield 80, 3) := by decide +kernel
theorem dX10_province_79 : decode cX10_province 79 = .ok (.iload 6, 2) := by decide +kernel
theorem dX10_province_81 : decode cX10_province 81 = .ok (.isub, 1) := by decide +kernel
theorem dX10_province_82 : decode cX10_province 82 = .ok (.isub, 1) := by decide +kernel
theorem dX10_province_83 : decode cX10_province 83 = .ok (.ireturn, 1) := by decide +kernel
theorem dX10_province_84 : decode cX10_province 84 = .ok (.aload_n 0, 1) := by decide +kernel
theorem dX10_province_85 : decode cX10_province 85 = .ok (.invokevirtual 101, 3) := by decide +kernel
theorem dX10_province_88 : decode cX10_province 88 = .ok (.aload_n 0, 1) := by decide +kernel
theorem dX10_province_89 : decode cX10_province 89 = .ok (.getfield 77, 3) := by decide +kernel
theorem dX10_province_92 : decode cX10_province 92 = .ok (.ireturn, 1) := by decide +kernel
theorem dX10_takeProvince_0 : decode cX10_takeProvince 0 = .ok (.iconst 0, 1) := by decide +kernel
theorem dX10_takeProvince_1 : decode cX10_takeProvince 1 = .ok (.istore_n 1, 1) := by decide +kernel
theorem dX10_takeProvince_2 : decode cX10_takeProvince 2 = .ok (.iload_n 1, 1) := by decide +kernel
theorem dX10_takeProvince_3 : decode cX10_takeProvince 3 = .ok (.iconst 3, 1) := by decide +kernel
theorem dX10_takeProvince_4 : decode cX10_takeProvince 4 = .ok (.if_icmp .ge 21, 3) := by decide +kernel
theorem dX10_takeProvince_7 : decode cX10_takeProvince 7 = .ok (.aload_n 0, 1) := by decide +kernel
theorem dX10_takeProvince_8 : decode cX10_takeProvince 8 = .ok (.getfield 19, 3) := by decide +kernel
theorem dX10_takeProvince_11 : decode cX10_takeProvince 11 = .ok (.iload_n 1, 1) := by decide +kernel
theorem dX10_takeProvince_12 : decode cX10_takeProvince 12 = .ok (.aload_n 0, 1) := by decide +kernel
theorem dX10_takeProvince_13 : decode cX10_takeProvince 13 = .ok (.getfield 34, 3) := by decide +kernel
theorem dX10_takeProvince_16 : decode cX10_takeProvince 16 = .ok (.iload_n 1, 1) := by decide +kernel
theorem dX10_takeProvince_17 : decode cX10_takeProvince 17 = .ok (.iaload, 1) := by decide +kernel
theorem dX10_takeProvince_18 : decode cX10_takeProvince 18 = .ok (.iastore, 1) := by decide +kernel
theorem dX10_takeProvince_19 : decode cX10_takeProvince 19 = .ok (.iinc 1 1, 3) := by decide +kernel
theorem dX10_takeProvince_22 : decode cX10_takeProvince 22 = .ok (.goto (-20), 3) := by decide +kernel
theorem dX10_takeProvince_25 : decode cX10_takeProvince 25 = .ok (.aload_n 0, 1) := by decide +kernel
theorem dX10_takeProvince_26 : decode cX10_takeProvince 26 = .ok (.aload_n 0, 1) := by decide +kernel
theorem dX10_takeProvince_27 : decode cX10_takeProvince 27 = .ok (.getfield 104, 3) := by decide +kernel
theorem dX10_takeProvince_30 : decode cX10_takeProvince 30 = .ok (.putfield 77, 3) := by decide +kernel
theorem dX10_takeProvince_33 : decode cX10_takeProvince 33 = .ok (.iconst 0, 1) := by decide +kernel
theorem dX10_takeProvince_34 : decode cX10_takeProvince 34 = .ok (.istore_n 1, 1) := by decide +kernel
theorem dX10_takeProvince_35 : decode cX10_takeProvince 35 = .ok (.iload_n 1, 1) := by decide +kernel
theorem dX10_takeProvince_36 : decode cX10_takeProvince 36 = .ok (.aload_n 0, 1) := by decide +kernel
theorem dX10_takeProvince_37 : decode cX10_takeProvince 37 = .ok (.getfield 77, 3) := by decide +kernel
theorem dX10_takeProvince_40 : decode cX10_takeProvince 40 = .ok (.if_icmp .ge 71, 3) := by decide +kernel
theorem dX10_takeProvince_43 : decode cX10_takeProvince 43 = .ok (.aload_n 0, 1) := by decide +kernel
theorem dX10_takeProvince_44 : decode cX10_takeProvince 44 = .ok (.getfield 22, 3) := by decide +kernel
theorem dX10_takeProvince_47 : decode cX10_takeProvince 47 = .ok (.iload_n 1, 1) := by decide +kernel
theorem dX10_takeProvince_48 : decode cX10_takeProvince 48 = .ok (.aload_n 0, 1) := by decide +kernel
theorem dX10_takeProvince_49 : decode cX10_takeProvince 49 = .ok (.getfield 37, 3) := by decide +kernel
theorem dX10_takeProvince_52 : decode cX10_takeProvince 52 = .ok (.iconst 4, 1) := by decide +kernel
theorem dX10_takeProvince_53 : decode cX10_takeProvince 53 = .ok (.iload_n 1, 1) := by decide +kernel
theorem dX10_takeProvince_54 : decode cX10_takeProvince 54 = .ok (.imul, 1) := by decide +kernel
theorem dX10_takeProvince_55 : decode cX10_takeProvince 55 = .ok (.iaload, 1) := by decide +kernel
theorem dX10_takeProvince_56 : decode cX10_takeProvince 56 = .ok (.iastore, 1) := by decide +kernel
theorem dX10_takeProvince_57 : decode cX10_takeProvince 57 = .ok (.aload_n 0, 1) := by decide +kernel
theorem dX10_takeProvince_58 : decode cX10_takeProvince 58 = .ok (.getfield 25, 3) := by decide +kernel
theorem dX10_takeProvince_61 : decode cX10_takeProvince 61 = .ok (.iload_n 1, 1) := by decide +kernel
theorem dX10_takeProvince_62 : decode cX10_takeProvince 62 = .ok (.aload_n 0, 1) := by decide +kernel
theorem dX10_takeProvince_63 : decode cX10_takeProvince 63 = .ok (.getfield 37, 3) := by decide +kernel
theorem dX10_takeProvince_66 : decode cX10_takeProvince 66 = .ok (.iconst 4, 1) := by decide +kernel
theorem dX10_takeProvince_67 : decode cX10_takeProvince 67 = .ok (.iload_n 1, 1) := by decide +kernel
theorem dX10_takeProvince_68 : decode cX10_takeProvince 68 = .ok (.imul, 1) := by decide +kernel
theorem dX10_takeProvince_69 : decode cX10_takeProvince 69 = .ok (.iconst 1, 1) := by decide +kernel
theorem dX10_takeProvince_70 : decode cX10_takeProvince 70 = .ok (.iadd, 1) := by decide +kernel
theorem dX10_takeProvince_71 : decode cX10_takeProvince 71 = .ok (.iaload, 1) := by decide +kernel
theorem dX10_takeProvince_72 : decode cX10_takeProvince 72 = .ok (.iastore, 1) := by decide +kernel
theorem dX10_takeProvince_73 : decode cX10_takeProvince 73 = .ok (.aload_n 0, 1) := by decide +kernel
theorem dX10_takeProvince_74 : decode cX10_takeProvince 74 = .ok (.getfield 28, 3) := by decide +kernel
theorem dX10_takeProvince_77 : decode cX10_takeProvince 77 = .ok (.iload_n 1, 1) := by decide +kernel
theorem dX10_takeProvince_78 : decode cX10_takeProvince 78 = .ok (.aload_n 0, 1) := by decide +kernel
theorem dX10_takeProvince_79 : decode cX10_takeProvince 79 = .ok (.getfield 37, 3) := by decide +kernel
theorem dX10_takeProvince_82 : decode cX10_takeProvince 82 = .ok (.iconst 4, 1) := by decide +kernel
theorem dX10_takeProvince_83 : decode cX10_takeProvince 83 = .ok (.iload_n 1, 1) := by decide +kernel
theorem dX10_takeProvince_84 : decode cX10_takeProvince 84 = .ok (.imul, 1) := by decide +kernel
theorem dX10_takeProvince_85 : decode cX10_takeProvince 85 = .ok (.iconst 2, 1) := by decide +kernel
theorem dX10_takeProvince_86 : decode cX10_takeProvince 86 = .ok (.iadd, 1) := by decide +kernel
theorem dX10_takeProvince_87 : decode cX10_takeProvince 87 = .ok (.iaload, 1) := by decide +kernel
theorem dX10_takeProvince_88 : decode cX10_takeProvince 88 = .ok (.iastore, 1) := by decide +kernel
theorem dX10_takeProvince_89 : decode cX10_takeProvince 89 = .ok (.aload_n 0, 1) := by decide +kernel
theorem dX10_takeProvince_90 : decode cX10_takeProvince 90 = .ok (.getfield 31, 3) := by decide +kernel
theorem dX10_takeProvince_93 : decode cX10_takeProvince 93 = .ok (.iload_n 1, 1) := by decide +kernel
theorem dX10_takeProvince_94 : decode cX10_takeProvince 94 = .ok (.aload_n 0, 1) := by decide +kernel
theorem dX10_takeProvince_95 : decode cX10_takeProvince 95 = .ok (.getfield 37, 3) := by decide +kernel
theorem dX10_takeProvince_98 : decode cX10_takeProvince 98 = .ok (.iconst 4, 1) := by decide +kernel
theorem dX10_takeProvince_99 : decode cX10_takeProvince 99 = .ok (.iload_n 1, 1) := by decide +kernel
theorem dX10_takeProvince_100 : decode cX10_takeProvince 100 = .ok (.imul, 1) := by decide +kernel
theorem dX10_takeProvince_101 : decode cX10_takeProvince 101 = .ok (.iconst 3, 1) := by decide +kernel
theorem dX10_takeProvince_102 : decode cX10_takeProvince 102 = .ok (.iadd, 1) := by decide +kernel
theorem dX10_takeProvince_103 : decode cX10_takeProvince 103 = .ok (.iaload, 1) := by decide +kernel
theorem dX10_takeProvince_104 : decode cX10_takeProvince 104 = .ok (.iastore, 1) := by decide +kernel
theorem dX10_takeProvince_105 : decode cX10_takeProvince 105 = .ok (.iinc 1 1, 3) := by decide +kernel
theorem dX10_takeProvince_108 : decode cX10_takeProvince 108 = .ok (.goto (-73), 3) := by decide +kernel
theorem dX10_takeProvince_111 : decode cX10_takeProvince 111 = .ok (.aload_n 0, 1) := by decide +kernel
theorem dX10_takeProvince_112 : decode cX10_takeProvince 112 = .ok (.iconst 0, 1) := by decide +kernel
theorem dX10_takeProvince_113 : decode cX10_takeProvince 113 = .ok (.putfield 107, 3) := by decide +kernel
theorem dX10_takeProvince_116 : decode cX10_takeProvince 116 = .ok (.aload_n 0, 1) := by decide +kernel
theorem dX10_takeProvince_117 : decode cX10_takeProvince 117 = .ok (.iconst 0, 1) := by decide +kernel
theorem dX10_takeProvince_118 : decode cX10_takeProvince 118 = .ok (.putfield 110, 3) := by decide +kernel
theorem dX10_takeProvince_121 : decode cX10_takeProvince 121 = .ok (.aload_n 0, 1) := by decide +kernel
theorem dX10_takeProvince_122 : decode cX10_takeProvince 122 = .ok (.iconst 0, 1) := by decide +kernel
theorem dX10_takeProvince_123 : decode cX10_takeProvince 123 = .ok (.putfield 113, 3) := by decide +kernel
theorem dX10_takeProvince_126 : decode cX10_takeProvince 126 = .ok (.return_, 1) := by decide +kernel
set_option maxRecDepth 20000 in
theorem ggX10_readProvince_X10_isSign : GoodIn wsX10_readProvince wsX10_isSign := goodIn_r _ [8, 3, 9, 22, 23, 24, 25, 26, 27, 28, 29, 30, 31, 32, 33, 34, 35, 36, 37, 38, 39, 40, 41, 42, 43, 44, 45, 46, 47, 48, 49, 50, 51, 52, 53] (by decide +kernel) (by decide +kernel)
set_option maxRecDepth 20000 in
theorem gX10_readProvince_X10_isSign : GoodIn wsX10_readProvince (wsV RX10 116 RX10 yX10_isSign wsX10_isSign) := goodIn_app (goodIn_of _ (by decide +kernel)) ggX10_readProvince_X10_isSign
set_option maxRecDepth 20000 in
theorem ggX10_readProvince_X10_digit : GoodIn wsX10_readProvince wsX10_digit := goodIn_r _ [13, 3, 9, 14, 15, 7, 16, 22, 23, 24, 25, 26, 27, 28, 29, 30, 31, 32, 33, 34, 35, 36, 37, 38, 39, 40, 41, 42, 43, 44, 45, 46, 47, 48, 49, 50, 51, 52, 53] (by decide +kernel) (by decide +kernel)
set_option maxRecDepth 20000 in
theorem gX10_readProvince_X10_digit : GoodIn wsX10_readProvince (wsV RX10 120 RX10 yX10_digit wsX10_digit) := goodIn_app (goodIn_of _ (by decide +kernel)) ggX10_readProvince_X10_digit
set_option maxRecDepth 20000 in
theorem ggX10_readProvince_X10_readPerson : GoodIn wsX10_readProvince wsX10_readPerson := goodIn_r _ [20, 3, 9, 1, 21, 10, 11, 12, 7, 13, 14, 15, 16, 22, 23, 24, 25, 26, 27, 28, 29, 30, 31, 32, 33, 34, 35, 36, 37, 38, 39, 40, 41, 42, 43, 44, 45, 46, 47, 48, 49, 50, 51, 52, 53] (by decide +kernel) (by decide +kernel)
set_option maxRecDepth 20000 in
theorem gX10_readProvince_X10_readPerson : GoodIn wsX10_readProvince (wsV RX10 124 RX10 yX10_readPerson wsX10_readPerson) := goodIn_app (goodIn_of _ (by decide +kernel)) ggX10_readProvince_X10_readPerson
theorem dX10_readProvince_0 : decode cX10_readProvince 0 = .ok (.aload_n 0, 1) := by decide +kernel
theorem dX10_readProvince_1 : decode cX10_readProvince 1 = .ok (.iconst 0, 1) := by decide +kernel
theorem dX10_readProvince_2 : decode cX10_readProvince 2 = .ok (.putfield 104, 3) := by decide +kernel
theorem dX10_readProvince_5 : decode cX10_readProvince 5 = .ok (.aload_n 0, 1) := by decide +kernel
theorem dX10_readProvince_6 : decode cX10_readProvince 6 = .ok (.iload_n 1, 1) := by decide +kernel
theorem dX10_readProvince_7 : decode cX10_readProvince 7 = .ok (.bipush 112, 2) := by decide +kernel
theorem dX10_readProvince_9 : decode cX10_readProvince 9 = .ok (.invokevirtual 116, 3) := by decide +kernel
theorem dX10_readProvince_12 : decode cX10_readProvince 12 = .ok (.ifCond .ne 5, 3) := by decide +kernel
theorem dX10_readProvince_15 : decode cX10_readProvince 15 = .ok (.iconst 0, 1) := by decide +kernel
theorem dX10_readProvince_16 : decode cX10_readProvince 16 = .ok (.ireturn, 1) := by decide +kernel
theorem dX10_readProvince_17 : decode cX10_readProvince 17 = .ok (.iconst 0, 1) := by decide +kernel
theorem dX10_readProvince_18 : decode cX10_readProvince 18 = .ok (.istore_n 2, 1) := by decide +kernel
theorem dX10_readProvince_19 : decode cX10_readProvince 19 = .ok (.iload_n 2, 1) := by decide +kernel
theorem dX10_readProvince_20 : decode cX10_readProvince 20 = .ok (.iconst 3, 1) := by decide +kernel
theorem dX10_readProvince_21 : decode cX10_readProvince 21 = .ok (.if_icmp .ge 35, 3) := by decide +kernel
theorem dX10_readProvince_24 : decode cX10_readProvince 24 = .ok (.aload_n 0, 1) := by decide +kernel
theorem dX10_readProvince_25 : decode cX10_readProvince 25 = .ok (.getfield 34, 3) := by decide +kernel
theorem dX10_readProvince_28 : decode cX10_readProvince 28 = .ok (.iload_n 2, 1) := by decide +kernel
theorem dX10_readProvince_29 : decode cX10_readProvince 29 = .ok (.aload_n 0, 1) := by decide +kernel
theorem dX10_readProvince_30 : decode cX10_readProvince 30 = .ok (.iload_n 1, 1) := by decide +kernel
theorem dX10_readProvince_31 : decode cX10_readProvince 31 = .ok (.bipush 9, 2) := by decide +kernel
theorem dX10_readProvince_33 : decode cX10_readProvince 33 = .ok (.invokevirtual 120, 3) := by decide +kernel
theorem dX10_readProvince_36 : decode cX10_readProvince 36 = .ok (.iastore, 1) := by decide +kernel
theorem dX10_readProvince_37 : decode cX10_readProvince 37 = .ok (.aload_n 0, 1) := by decide +kernel
theorem dX10_readProvince_38 : decode cX10_readProvince 38 = .ok (.getfield 34, 3) := by decide +kernel
theorem dX10_readProvince_41 : decode cX10_readProvince 41 = .ok (.iload_n 2, 1) := by decide +kernel
theorem dX10_readProvince_42 : decode cX10_readProvince 42 = .ok (.iaload, 1) := by decide +kernel
theorem dX10_readProvince_43 : decode cX10_readProvince 43 = .ok (.bipush (-9), 2) := by decide +kernel
theorem dX10_readProvince_45 : decode cX10_readProvince 45 = .ok (.if_icmp .ne 5, 3) := by decide +kernel
theorem dX10_readProvince_48 : decode cX10_readProvince 48 = .ok (.iconst 0, 1) := by decide +kernel
theorem dX10_readProvince_49 : decode cX10_readProvince 49 = .ok (.ireturn, 1) := by decide +kernel
theorem dX10_readProvince_50 : decode cX10_readProvince 50 = .ok (.iinc 2 1, 3) := by decide +kernel
theorem dX10_readProvince_53 : decode cX10_readProvince 53 = .ok (.goto (-34), 3) := by decide +kernel
theorem dX10_readProvince_56 : decode cX10_readProvince 56 = .ok (.aload_n 0, 1) := by decide +kernel
theorem dX10_readProvince_57 : decode cX10_readProvince 57 = .ok (.getfield 104, 3) := by decide +kernel
theorem dX10_readProvince_60 : decode cX10_readProvince 60 = .ok (.iconst 2, 1) := by decide +kernel
theorem dX10_readProvince_61 : decode cX10_readProvince 61 = .ok (.if_icmp .lt 20, 3) := by decide +kernel
theorem dX10_readProvince_64 : decode cX10_readProvince 64 = .ok (.aload_n 0, 1) := by decide +kernel
theorem dX10_readProvince_65 : decode cX10_readProvince 65 = .ok (.getfield 104, 3) := by decide +kernel
theorem dX10_readProvince_68 : decode cX10_readProvince 68 = .ok (.bipush 6, 2) := by decide +kernel
theorem dX10_readProvince_70 : decode cX10_readProvince 70 = .ok (.if_icmp .ge 31, 3) := by decide +kernel
theorem dX10_readProvince_73 : decode cX10_readProvince 73 = .ok (.aload_n 0, 1) := by decide +kernel
theorem dX10_readProvince_74 : decode cX10_readProvince 74 = .ok (.getfield 80, 3) := by decide +kernel
theorem dX10_readProvince_77 : decode cX10_readProvince 77 = .ok (.iload_n 1, 1) := by decide +kernel
theorem dX10_readProvince_78 : decode cX10_readProvince 78 = .ok (.if_icmp .ge 23, 3) := by decide +kernel
theorem dX10_readProvince_81 : decode cX10_readProvince 81 = .ok (.aload_n 0, 1) := by decide +kernel
theorem dX10_readProvince_82 : decode cX10_readProvince 82 = .ok (.iload_n 1, 1) := by decide +kernel
theorem dX10_readProvince_83 : decode cX10_readProvince 83 = .ok (.bipush 59, 2) := by decide +kernel
theorem dX10_readProvince_85 : decode cX10_readProvince 85 = .ok (.invokevirtual 116, 3) := by decide +kernel
theorem dX10_readProvince_88 : decode cX10_readProvince 88 = .ok (.ifCond .eq 11, 3) := by decide +kernel
theorem dX10_readProvince_91 : decode cX10_readProvince 91 = .ok (.aload_n 0, 1) := by decide +kernel
theorem dX10_readProvince_92 : decode cX10_readProvince 92 = .ok (.iload_n 1, 1) := by decide +kernel
theorem dX10_readProvince_93 : decode cX10_readProvince 93 = .ok (.invokevirtual 124, 3) := by decide +kernel
theorem dX10_readProvince_96 : decode cX10_readProvince 96 = .ok (.ifCond .ne (-40), 3) := by decide +kernel
theorem dX10_readProvince_99 : decode cX10_readProvince 99 = .ok (.iconst 0, 1) := by decide +kernel
theorem dX10_readProvince_100 : decode cX10_readProvince 100 = .ok (.ireturn, 1) := by decide +kernel
theorem dX10_readProvince_101 : decode cX10_readProvince 101 = .ok (.aload_n 0, 1) := by decide +kernel
theorem dX10_readProvince_102 : decode cX10_readProvince 102 = .ok (.getfield 80, 3) := by decide +kernel
theorem dX10_readProvince_105 : decode cX10_readProvince 105 = .ok (.iload_n 1, 1) := by decide +kernel
theorem dX10_readProvince_106 : decode cX10_readProvince 106 = .ok (.if_icmp .ne 7, 3) := by decide +kernel
theorem dX10_readProvince_109 : decode cX10_readProvince 109 = .ok (.iconst 1, 1) := by decide +kernel
theorem dX10_readProvince_110 : decode cX10_readProvince 110 = .ok (.goto 4, 3) := by decide +kernel
theorem dX10_readProvince_113 : decode cX10_readProvince 113 = .ok (.iconst 0, 1) := by decide +kernel
theorem dX10_readProvince_114 : decode cX10_readProvince 114 = .ok (.ireturn, 1) := by decide +kernel
set_option maxRecDepth 20000 in
theorem ggX10_readPerson_X10_digit : GoodIn wsX10_readPerson wsX10_digit := goodIn_r _ [9, 1, 2, 10, 11, 8, 12, 13, 14, 15, 16, 17, 18, 19, 20, 21, 22, 23, 24, 25, 26, 27, 28, 29, 30, 31, 32, 33, 34, 35, 36, 37, 38, 39, 40, 41, 42, 43, 44] (by decide +kernel) (by decide +kernel)
set_option maxRecDepth 20000 in
theorem gX10_readPerson_X10_digit : GoodIn wsX10_readPerson (wsV RX10 120 RX10 yX10_digit wsX10_digit) := goodIn_app (goodIn_of _ (by decide +kernel)) ggX10_readPerson_X10_digit
theorem dX10_readPerson_0 : decode cX10_readPerson 0 = .ok (.aload_n 0, 1) := by decide +kernel
theorem dX10_readPerson_1 : decode cX10_readPerson 1 = .ok (.getfield 80, 3) := by decide +kernel
theorem dX10_readPerson_4 : decode cX10_readPerson 4 = .ok (.iload_n 1, 1) := by decide +kernel
theorem dX10_readPerson_5 : decode cX10_readPerson 5 = .ok (.if_icmp .ge 15, 3) := by decide +kernel
theorem dX10_readPerson_8 : decode cX10_readPerson 8 = .ok (.aload_n 0, 1) := by decide +kernel
theorem dX10_readPerson_9 : decode cX10_readPerson 9 = .ok (.getfield 16, 3) := by decide +kernel
theorem dX10_readPerson_12 : decode cX10_readPerson 12 = .ok (.aload_n 0, 1) := by decide +kernel
theorem dX10_readPerson_13 : decode cX10_readPerson 13 = .ok (.getfield 80, 3) := by decide +kernel
theorem dX10_readPerson_16 : decode cX10_readPerson 16 = .ok (.iaload, 1) := by decide +kernel
theorem dX10_readPerson_17 : decode cX10_readPerson 17 = .ok (.goto 4, 3) := by decide +kernel
theorem dX10_readPerson_20 : decode cX10_readPerson 20 = .ok (.iconst 0, 1) := by decide +kernel
theorem dX10_readPerson_21 : decode cX10_readPerson 21 = .ok (.istore_n 2, 1) := by decide +kernel
theorem dX10_readPerson_22 : decode cX10_readPerson 22 = .ok (.iconst 4, 1) := by decide +kernel
theorem dX10_readPerson_23 : decode cX10_readPerson 23 = .ok (.aload_n 0, 1) := by decide +kernel
theorem dX10_readPerson_24 : decode cX10_readPerson 24 = .ok (.getfield 104, 3) := by decide +kernel
theorem dX10_readPerson_27 : decode cX10_readPerson 27 = .ok (.imul, 1) := by decide +kernel
theorem dX10_readPerson_28 : decode cX10_readPerson 28 = .ok (.istore_n 3, 1) := by decide +kernel
theorem dX10_readPerson_29 : decode cX10_readPerson 29 = .ok (.aload_n 0, 1) := by decide +kernel
theorem dX10_readPerson_30 : decode cX10_readPerson 30 = .ok (.getfield 37, 3) := by decide +kernel
theorem dX10_readPerson_33 : decode cX10_readPerson 33 = .ok (.iload_n 3, 1) := by decide +kernel
theorem dX10_readPerson_34 : decode cX10_readPerson 34 = .ok (.iload_n 2, 1) := by decide +kernel
theorem dX10_readPerson_35 : decode cX10_readPerson 35 = .ok (.bipush 103, 2) := by decide +kernel
theorem dX10_readPerson_37 : decode cX10_readPerson 37 = .ok (.if_icmp .ne 7, 3) := by decide +kernel
theorem dX10_readPerson_40 : decode cX10_readPerson 40 = .ok (.iconst 0, 1) := by decide +kernel
theorem dX10_readPerson_41 : decode cX10_readPerson 41 = .ok (.goto 25, 3) := by decide +kernel
theorem dX10_readPerson_44 : decode cX10_readPerson 44 = .ok (.iload_n 2, 1) := by decide +kernel
theorem dX10_readPerson_45 : decode cX10_readPerson 45 = .ok (.bipush 116, 2) := by decide +kernel
theorem dX10_readPerson_47 : decode cX10_readPerson 47 = .ok (.if_icmp .ne 7, 3) := by decide +kernel
theorem dX10_readPerson_50 : decode cX10_readPerson 50 = .ok (.iconst 1, 1) := by decide +kernel
theorem dX10_readPerson_51 : decode cX10_readPerson 51 = .ok (.goto 15, 3) := by decide +kernel
theorem dX10_readPerson_54 : decode cX10_readPerson 54 = .ok (.iload_n 2, 1) := by decide +kernel
theorem dX10_readPerson_55 : decode cX10_readPerson 55 = .ok (.bipush 104, 2) := by decide +kernel
theorem dX10_readPerson_57 : decode cX10_readPerson 57 = .ok (.if_icmp .ne 7, 3) := by decide +kernel
theorem dX10_readPerson_60 : decode cX10_readPerson 60 = .ok (.iconst 2, 1) := by decide +kernel
theorem dX10_readPerson_61 : decode cX10_readPerson 61 = .ok (.goto 5, 3) := by decide +kernel
theorem dX10_readPerson_64 : decode cX10_readPerson 64 = .ok (.bipush (-9), 2) := by decide +kernel
theorem dX10_readPerson_66 : decode cX10_readPerson 66 = .ok (.iastore, 1) := by decide +kernel
theorem dX10_readPerson_67 : decode cX10_readPerson 67 = .ok (.aload_n 0, 1) := by decide +kernel
theorem dX10_readPerson_68 : decode cX10_readPerson 68 = .ok (.getfield 37, 3) := by decide +kernel
theorem dX10_readPerson_71 : decode cX10_readPerson 71 = .ok (.iload_n 3, 1) := by decide +kernel
theorem dX10_readPerson_72 : decode cX10_readPerson 72 = .ok (.iaload, 1) := by decide +kernel
theorem dX10_readPerson_73 : decode cX10_readPerson 73 = .ok (.bipush (-9), 2) := by decide +kernel
theorem dX10_readPerson_75 : decode cX10_readPerson 75 = .ok (.if_icmp .ne 5, 3) := by decide +kernel
theorem dX10_readPerson_78 : decode cX10_readPerson 78 = .ok (.iconst 0, 1) := by decide +kernel
theorem dX10_readPerson_79 : decode cX10_readPerson 79 = .ok (.ireturn, 1) := by decide +kernel
theorem dX10_readPerson_80 : decode cX10_readPerson 80 = .ok (.aload_n 0, 1) := by decide +kernel
theorem dX10_readPerson_81 : decode cX10_readPerson 81 = .ok (.dup, 1) := by decide +kernel
theorem dX10_readPerson_82 : decode cX10_readPerson 82 = .ok (.getfield 80, 3) := by decide +kernel
theorem dX10_readPerson_85 : decode cX10_readPerson 85 = .ok (.iconst 1, 1) := by decide +kernel
theorem dX10_readPerson_86 : decode cX10_readPerson 86 = .ok (.iadd, 1) := by decide +kernel
theorem dX10_readPerson_87 : decode cX10_readPerson 87 = .ok (.putfield 80, 3) := by decide +kernel
theorem dX10_readPerson_90 : decode cX10_readPerson 90 = .ok (.iconst 1, 1) := by decide +kernel
theorem dX10_readPerson_91 : decode cX10_readPerson 91 = .ok (.istore 4, 2) := by decide +kernel
theorem dX10_readPerson_93 : decode cX10_readPerson 93 = .ok (.iload 4, 2) := by decide +kernel
theorem dX10_readPerson_95 : decode cX10_readPerson 95 = .ok (.iconst 4, 1) := by decide +kernel
theorem dX10_readPerson_96 : decode cX10_readPerson 96 = .ok (.if_icmp .ge 52, 3) := by decide +kernel
theorem dX10_readPerson_99 : decode cX10_readPerson 99 = .ok (.aload_n 0, 1) := by decide +kernel
theorem dX10_readPerson_100 : decode cX10_readPerson 100 = .ok (.getfield 37, 3) := by decide +kernel
theorem dX10_readPerson_103 : decode cX10_readPerson 103 = .ok (.iload_n 3, 1) := by decide +kernel
theorem dX10_readPerson_104 : decode cX10_readPerson 104 = .ok (.iload 4, 2) := by decide +kernel
theorem dX10_readPerson_106 : decode cX10_readPerson 106 = .ok (.iadd, 1) := by decide +kernel
theorem dX10_readPerson_107 : decode cX10_readPerson 107 = .ok (.aload_n 0, 1) := by decide +kernel
theorem dX10_readPerson_108 : decode cX10_readPerson 108 = .ok (.iload_n 1, 1) := by decide +kernel
theorem dX10_readPerson_109 : decode cX10_readPerson 109 = .ok (.iload 4, 2) := by decide +kernel
theorem dX10_readPerson_111 : decode cX10_readPerson 111 = .ok (.iconst 2, 1) := by decide +kernel
theorem dX10_readPerson_112 : decode cX10_readPerson 112 = .ok (.if_icmp .ne 8, 3) := by decide +kernel
theorem dX10_readPerson_115 : decode cX10_readPerson 115 = .ok (.bipush 7, 2) := by decide +kernel
theorem dX10_readPerson_117 : decode cX10_readPerson 117 = .ok (.goto 5, 3) := by decide +kernel
theorem dX10_readPerson_120 : decode cX10_readPerson 120 = .ok (.bipush 9, 2) := by decide +kernel
theorem dX10_readPerson_122 : decode cX10_readPerson 122 = .ok (.invokevirtual 120, 3) := by decide +kernel
theorem dX10_readPerson_125 : decode cX10_readPerson 125 = .ok (.iastore, 1) := by decide +kernel
theorem dX10_readPerson_126 : decode cX10_readPerson 126 = .ok (.aload_n 0, 1) := by decide +kernel
theorem dX10_readPerson_127 : decode cX10_readPerson 127 = .ok (.getfield 37, 3) := by decide +kernel
theorem dX10_readPerson_130 : decode cX10_readPerson 130 = .ok (.iload_n 3, 1) := by decide +kernel
theorem dX10_readPerson_131 : decode cX10_readPerson 131 = .ok (.iload 4, 2) := by decide +kernel
theorem dX10_readPerson_133 : decode cX10_readPerson 133 = .ok (.iadd, 1) := by decide +kernel
theorem dX10_readPerson_134 : decode cX10_readPerson 134 = .ok (.iaload, 1) := by decide +kernel
theorem dX10_readPerson_135 : decode cX10_readPerson 135 = .ok (.bipush (-9), 2) := by decide +kernel
theorem dX10_readPerson_137 : decode cX10_readPerson 137 = .ok (.if_icmp .ne 5, 3) := by decide +kernel
theorem dX10_readPerson_140 : decode cX10_readPerson 140 = .ok (.iconst 0, 1) := by decide +kernel
theorem dX10_readPerson_141 : decode cX10_readPerson 141 = .ok (.ireturn, 1) := by decide +kernel
theorem dX10_readPerson_142 : decode cX10_readPerson 142 = .ok (.iinc 4 1, 3) := by decide +kernel
theorem dX10_readPerson_145 : decode cX10_readPerson 145 = .ok (.goto (-52), 3) := by decide +kernel
theorem dX10_readPerson_148 : decode cX10_readPerson 148 = .ok (.aload_n 0, 1) := by decide +kernel
theorem dX10_readPerson_149 : decode cX10_readPerson 149 = .ok (.dup, 1) := by decide +kernel
theorem dX10_readPerson_150 : decode cX10_readPerson 150 = .ok (.getfield 104, 3) := by decide +kernel
theorem dX10_readPerson_153 : decode cX10_readPerson 153 = .ok (.iconst 1, 1) := by decide +kernel
theorem dX10_readPerson_154 : decode cX10_readPerson 154 = .ok (.iadd, 1) := by decide +kernel
theorem dX10_readPerson_155 : decode cX10_readPerson 155 = .ok (.putfield 104, 3) := by decide +kernel
theorem dX10_readPerson_158 : decode cX10_readPerson 158 = .ok (.iconst 1, 1) := by decide +kernel
theorem dX10_readPerson_159 : decode cX10_readPerson 159 = .ok (.ireturn, 1) := by decide +kernel
theorem dX10_saysOf_0 : decode cX10_saysOf 0 = .ok (.aload_n 0, 1) := by decide +kernel
theorem dX10_saysOf_1 : decode cX10_saysOf 1 = .ok (.getfield 22, 3) := by decide +kernel
theorem dX10_saysOf_4 : decode cX10_saysOf 4 = .ok (.iload_n 1, 1) := by decide +kernel
theorem dX10_saysOf_5 : decode cX10_saysOf 5 = .ok (.iaload, 1) := by decide +kernel
theorem dX10_saysOf_6 : decode cX10_saysOf 6 = .ok (.ifCond .ne 12, 3) := by decide +kernel
theorem dX10_saysOf_9 : decode cX10_saysOf 9 = .ok (.aload_n 0, 1) := by decide +kernel
theorem dX10_saysOf_10 : decode cX10_saysOf 10 = .ok (.getfield 31, 3) := by decide +kernel
theorem dX10_saysOf_13 : decode cX10_saysOf 13 = .ok (.iload_n 1, 1) := by decide +kernel
theorem dX10_saysOf_14 : decode cX10_saysOf 14 = .ok (.iaload, 1) := by decide +kernel
theorem dX10_saysOf_15 : decode cX10_saysOf 15 = .ok (.goto 32, 3) := by decide +kernel
theorem dX10_saysOf_18 : decode cX10_saysOf 18 = .ok (.aload_n 0, 1) := by decide +kernel
theorem dX10_saysOf_19 : decode cX10_saysOf 19 = .ok (.getfield 22, 3) := by decide +kernel
theorem dX10_saysOf_22 : decode cX10_saysOf 22 = .ok (.iload_n 1, 1) := by decide +kernel
theorem dX10_saysOf_23 : decode cX10_saysOf 23 = .ok (.iaload, 1) := by decide +kernel
theorem dX10_saysOf_24 : decode cX10_saysOf 24 = .ok (.iconst 1, 1) := by decide +kernel
theorem dX10_saysOf_25 : decode cX10_saysOf 25 = .ok (.if_icmp .ne 14, 3) := by decide +kernel
theorem dX10_saysOf_28 : decode cX10_saysOf 28 = .ok (.aload_n 0, 1) := by decide +kernel
theorem dX10_saysOf_29 : decode cX10_saysOf 29 = .ok (.getfield 31, 3) := by decide +kernel
theorem dX10_saysOf_32 : decode cX10_saysOf 32 = .ok (.iload_n 1, 1) := by decide +kernel
theorem dX10_saysOf_33 : decode cX10_saysOf 33 = .ok (.iaload, 1) := by decide +kernel
theorem dX10_saysOf_34 : decode cX10_saysOf 34 = .ok (.iconst 1, 1) := by decide +kernel
theorem dX10_saysOf_35 : decode cX10_saysOf 35 = .ok (.iadd, 1) := by decide +kernel
theorem dX10_saysOf_36 : decode cX10_saysOf 36 = .ok (.goto 11, 3) := by decide +kernel
theorem dX10_saysOf_39 : decode cX10_saysOf 39 = .ok (.iconst 2, 1) := by decide +kernel
theorem dX10_saysOf_40 : decode cX10_saysOf 40 = .ok (.aload_n 0, 1) := by decide +kernel
theorem dX10_saysOf_41 : decode cX10_saysOf 41 = .ok (.getfield 31, 3) := by decide +kernel
theorem dX10_saysOf_44 : decode cX10_saysOf 44 = .ok (.iload_n 1, 1) := by decide +kernel
theorem dX10_saysOf_45 : decode cX10_saysOf 45 = .ok (.iaload, 1) := by decide +kernel
theorem dX10_saysOf_46 : decode cX10_saysOf 46 = .ok (.imul, 1) := by decide +kernel
theorem dX10_saysOf_47 : decode cX10_saysOf 47 = .ok (.ireturn, 1) := by decide +kernel
set_option maxRecDepth 20000 in
theorem ggX10_bringsOf_X10_isOf : GoodIn wsX10_bringsOf wsX10_isOf := goodIn_r _ [6] (by decide +kernel) (by decide +kernel)
set_option maxRecDepth 20000 in
theorem gX10_bringsOf_X10_isOf : GoodIn wsX10_bringsOf (va_wsS RX10 127 yX10_isOf wsX10_isOf) := goodIn_app (goodIn_of _ (by decide +kernel)) ggX10_bringsOf_X10_isOf
set_option maxRecDepth 20000 in
theorem ggX10_bringsOf_X10_saysOf : GoodIn wsX10_bringsOf wsX10_saysOf := goodIn_r _ [10, 11, 12, 13, 14, 15, 16, 17, 18, 19, 20, 21, 22, 23, 24, 25, 26, 27, 28, 29, 30, 31, 32, 33, 34, 35, 36, 37, 38, 39, 40, 41, 42, 43, 44] (by decide +kernel) (by decide +kernel)
set_option maxRecDepth 20000 in
theorem gX10_bringsOf_X10_saysOf : GoodIn wsX10_bringsOf (wsV RX10 130 RX10 yX10_saysOf wsX10_saysOf) := goodIn_app (goodIn_of _ (by decide +kernel)) ggX10_bringsOf_X10_saysOf
theorem dX10_bringsOf_0 : decode cX10_bringsOf 0 = .ok (.aload_n 0, 1) := by decide +kernel
theorem dX10_bringsOf_1 : decode cX10_bringsOf 1 = .ok (.getfield 28, 3) := by decide +kernel
theorem dX10_bringsOf_4 : decode cX10_bringsOf 4 = .ok (.iload_n 1, 1) := by decide +kernel
theorem dX10_bringsOf_5 : decode cX10_bringsOf 5 = .ok (.iaload, 1) := by decide +kernel
theorem dX10_bringsOf_6 : decode cX10_bringsOf 6 = .ok (.iload_n 2, 1) := by decide +kernel
theorem dX10_bringsOf_7 : decode cX10_bringsOf 7 = .ok (.invokestatic 127, 3) := by decide +kernel
theorem dX10_bringsOf_10 : decode cX10_bringsOf 10 = .ok (.ifCond .eq 18, 3) := by decide +kernel
theorem dX10_bringsOf_13 : decode cX10_bringsOf 13 = .ok (.aload_n 0, 1) := by decide +kernel
theorem dX10_bringsOf_14 : decode cX10_bringsOf 14 = .ok (.iload_n 1, 1) := by decide +kernel
theorem dX10_bringsOf_15 : decode cX10_bringsOf 15 = .ok (.invokevirtual 130, 3) := by decide +kernel
theorem dX10_bringsOf_18 : decode cX10_bringsOf 18 = .ok (.aload_n 0, 1) := by decide +kernel
theorem dX10_bringsOf_19 : decode cX10_bringsOf 19 = .ok (.getfield 19, 3) := by decide +kernel
theorem dX10_bringsOf_22 : decode cX10_bringsOf 22 = .ok (.iload_n 2, 1) := by decide +kernel
theorem dX10_bringsOf_23 : decode cX10_bringsOf 23 = .ok (.iaload, 1) := by decide +kernel
theorem dX10_bringsOf_24 : decode cX10_bringsOf 24 = .ok (.imul, 1) := by decide +kernel
theorem dX10_bringsOf_25 : decode cX10_bringsOf 25 = .ok (.goto 8, 3) := by decide +kernel
theorem dX10_bringsOf_28 : decode cX10_bringsOf 28 = .ok (.aload_n 0, 1) := by decide +kernel
theorem dX10_bringsOf_29 : decode cX10_bringsOf 29 = .ok (.iload_n 1, 1) := by decide +kernel
theorem dX10_bringsOf_30 : decode cX10_bringsOf 30 = .ok (.invokevirtual 130, 3) := by decide +kernel
theorem dX10_bringsOf_33 : decode cX10_bringsOf 33 = .ok (.ireturn, 1) := by decide +kernel
theorem dX10_firstOf_0 : decode cX10_firstOf 0 = .ok (.iconst 0, 1) := by decide +kernel
theorem dX10_firstOf_1 : decode cX10_firstOf 1 = .ok (.istore_n 1, 1) := by decide +kernel
theorem dX10_firstOf_2 : decode cX10_firstOf 2 = .ok (.iconst 1, 1) := by decide +kernel
theorem dX10_firstOf_3 : decode cX10_firstOf 3 = .ok (.istore_n 2, 1) := by decide +kernel
theorem dX10_firstOf_4 : decode cX10_firstOf 4 = .ok (.iload_n 2, 1) := by decide +kernel
theorem dX10_firstOf_5 : decode cX10_firstOf 5 = .ok (.aload_n 0, 1) := by decide +kernel
theorem dX10_firstOf_6 : decode cX10_firstOf 6 = .ok (.getfield 77, 3) := by decide +kernel
theorem dX10_firstOf_9 : decode cX10_firstOf 9 = .ok (.if_icmp .ge 30, 3) := by decide +kernel
theorem dX10_firstOf_12 : decode cX10_firstOf 12 = .ok (.aload_n 0, 1) := by decide +kernel
theorem dX10_firstOf_13 : decode cX10_firstOf 13 = .ok (.getfield 25, 3) := by decide +kernel
theorem dX10_firstOf_16 : decode cX10_firstOf 16 = .ok (.iload_n 2, 1) := by decide +kernel
theorem dX10_firstOf_17 : decode cX10_firstOf 17 = .ok (.iaload, 1) := by decide +kernel
theorem dX10_firstOf_18 : decode cX10_firstOf 18 = .ok (.aload_n 0, 1) := by decide +kernel
theorem dX10_firstOf_19 : decode cX10_firstOf 19 = .ok (.getfield 25, 3) := by decide +kernel
theorem dX10_firstOf_22 : decode cX10_firstOf 22 = .ok (.iload_n 1, 1) := by decide +kernel
theorem dX10_firstOf_23 : decode cX10_firstOf 23 = .ok (.iaload, 1) := by decide +kernel
theorem dX10_firstOf_24 : decode cX10_firstOf 24 = .ok (.if_icmp .ge 7, 3) := by decide +kernel
theorem dX10_firstOf_27 : decode cX10_firstOf 27 = .ok (.iload_n 2, 1) := by decide +kernel
theorem dX10_firstOf_28 : decode cX10_firstOf 28 = .ok (.goto 4, 3) := by decide +kernel
theorem dX10_firstOf_31 : decode cX10_firstOf 31 = .ok (.iload_n 1, 1) := by decide +kernel
theorem dX10_firstOf_32 : decode cX10_firstOf 32 = .ok (.istore_n 1, 1) := by decide +kernel
theorem dX10_firstOf_33 : decode cX10_firstOf 33 = .ok (.iinc 2 1, 3) := by decide +kernel
theorem dX10_firstOf_36 : decode cX10_firstOf 36 = .ok (.goto (-32), 3) := by decide +kernel
theorem dX10_firstOf_39 : decode cX10_firstOf 39 = .ok (.iload_n 1, 1) := by decide +kernel
theorem dX10_firstOf_40 : decode cX10_firstOf 40 = .ok (.ireturn, 1) := by decide +kernel
theorem dX10_placeOf_0 : decode cX10_placeOf 0 = .ok (.iconst 0, 1) := by decide +kernel
theorem dX10_placeOf_1 : decode cX10_placeOf 1 = .ok (.istore_n 2, 1) := by decide +kernel
theorem dX10_placeOf_2 : decode cX10_placeOf 2 = .ok (.iconst 0, 1) := by decide +kernel
theorem dX10_placeOf_3 : decode cX10_placeOf 3 = .ok (.istore_n 3, 1) := by decide +kernel
theorem dX10_placeOf_4 : decode cX10_placeOf 4 = .ok (.iload_n 3, 1) := by decide +kernel
theorem dX10_placeOf_5 : decode cX10_placeOf 5 = .ok (.aload_n 0, 1) := by decide +kernel
theorem dX10_placeOf_6 : decode cX10_placeOf 6 = .ok (.getfield 77, 3) := by decide +kernel
theorem dX10_placeOf_9 : decode cX10_placeOf 9 = .ok (.if_icmp .ge 52, 3) := by decide +kernel
theorem dX10_placeOf_12 : decode cX10_placeOf 12 = .ok (.iload_n 2, 1) := by decide +kernel
theorem dX10_placeOf_13 : decode cX10_placeOf 13 = .ok (.aload_n 0, 1) := by decide +kernel
theorem dX10_placeOf_14 : decode cX10_placeOf 14 = .ok (.getfield 25, 3) := by decide +kernel
theorem dX10_placeOf_17 : decode cX10_placeOf 17 = .ok (.iload_n 3, 1) := by decide +kernel
theorem dX10_placeOf_18 : decode cX10_placeOf 18 = .ok (.iaload, 1) := by decide +kernel
theorem dX10_placeOf_19 : decode cX10_placeOf 19 = .ok (.aload_n 0, 1) := by decide +kernel
theorem dX10_placeOf_20 : decode cX10_placeOf 20 = .ok (.getfield 25, 3) := by decide +kernel
theorem dX10_placeOf_23 : decode cX10_placeOf 23 = .ok (.iload_n 1, 1) := by decide +kernel
theorem dX10_placeOf_24 : decode cX10_placeOf 24 = .ok (.iaload, 1) := by decide +kernel
theorem dX10_placeOf_25 : decode cX10_placeOf 25 = .ok (.if_icmp .lt 23, 3) := by decide +kernel
theorem dX10_placeOf_28 : decode cX10_placeOf 28 = .ok (.aload_n 0, 1) := by decide +kernel
theorem dX10_placeOf_29 : decode cX10_placeOf 29 = .ok (.getfield 25, 3) := by decide +kernel
theorem dX10_placeOf_32 : decode cX10_placeOf 32 = .ok (.iload_n 3, 1) := by decide +kernel
theorem dX10_placeOf_33 : decode cX10_placeOf 33 = .ok (.iaload, 1) := by decide +kernel
theorem dX10_placeOf_34 : decode cX10_placeOf 34 = .ok (.aload_n 0, 1) := by decide +kernel
theorem dX10_placeOf_35 : decode cX10_placeOf 35 = .ok (.getfield 25, 3) := by decide +kernel
theorem dX10_placeOf_38 : decode cX10_placeOf 38 = .ok (.iload_n 1, 1) := by decide +kernel
theorem dX10_placeOf_39 : decode cX10_placeOf 39 = .ok (.iaload, 1) := by decide +kernel
theorem dX10_placeOf_40 : decode cX10_placeOf 40 = .ok (.if_icmp .ne 12, 3) := by decide +kernel
theorem dX10_placeOf_43 : decode cX10_placeOf 43 = .ok (.iload_n 3, 1) := by decide +kernel
theorem dX10_placeOf_44 : decode cX10_placeOf 44 = .ok (.iload_n 1, 1) := by decide +kernel
theorem dX10_placeOf_45 : decode cX10_placeOf 45 = .ok (.if_icmp .ge 7, 3) := by decide +kernel
theorem dX10_placeOf_48 : decode cX10_placeOf 48 = .ok (.iconst 1, 1) := by decide +kernel
theorem dX10_placeOf_49 : decode cX10_placeOf 49 = .ok (.goto 4, 3) := by decide +kernel
theorem dX10_placeOf_52 : decode cX10_placeOf 52 = .ok (.iconst 0, 1) := by decide +kernel
theorem dX10_placeOf_53 : decode cX10_placeOf 53 = .ok (.iadd, 1) := by decide +kernel
theorem dX10_placeOf_54 : decode cX10_placeOf 54 = .ok (.istore_n 2, 1) := by decide +kernel
theorem dX10_placeOf_55 : decode cX10_placeOf 55 = .ok (.iinc 3 1, 3) := by decide +kernel
theorem dX10_placeOf_58 : decode cX10_placeOf 58 = .ok (.goto (-54), 3) := by decide +kernel
theorem dX10_placeOf_61 : decode cX10_placeOf 61 = .ok (.iload_n 2, 1) := by decide +kernel
theorem dX10_placeOf_62 : decode cX10_placeOf 62 = .ok (.ireturn, 1) := by decide +kernel
set_option maxRecDepth 20000 in
theorem ggX10_ofPerson_X10_isPerson : GoodIn wsX10_ofPerson wsX10_isPerson := goodIn_r _ [9, 10, 19, 20, 21, 22, 23, 24, 25, 26, 27, 28, 29, 30, 31, 32, 33, 34, 35, 36, 37, 38, 39, 40, 41, 42, 43, 44, 45, 46, 47, 48, 49, 50] (by decide +kernel) (by decide +kernel)
set_option maxRecDepth 20000 in
theorem gX10_ofPerson_X10_isPerson : GoodIn wsX10_ofPerson (wsV RX10 133 RX10 yX10_isPerson wsX10_isPerson) := goodIn_app (goodIn_of _ (by decide +kernel)) ggX10_ofPerson_X10_isPerson
set_option maxRecDepth 20000 in
theorem ggX10_ofPerson_X10_saysOf : GoodIn wsX10_ofPerson wsX10_saysOf := goodIn_r _ [14, 1, 4, 19, 20, 21, 22, 23, 24, 25, 26, 27, 28, 29, 30, 31, 32, 33, 34, 35, 36, 37, 38, 39, 40, 41, 42, 43, 44, 45, 46, 47, 48, 49, 50] (by decide +kernel) (by decide +kernel)
set_option maxRecDepth 20000 in
theorem gX10_ofPerson_X10_saysOf : GoodIn wsX10_ofPerson (wsV RX10 130 RX10 yX10_saysOf wsX10_saysOf) := goodIn_app (goodIn_of _ (by decide +kernel)) ggX10_ofPerson_X10_saysOf
set_option maxRecDepth 20000 in
theorem ggX10_ofPerson_X10_placeOf : GoodIn wsX10_ofPerson wsX10_placeOf := goodIn_r _ [18, 10, 2, 19, 20, 21, 22, 23, 24, 25, 26, 27, 28, 29, 30, 31, 32, 33, 34, 35, 36, 37, 38, 39, 40, 41, 42, 43, 44, 45, 46, 47, 48, 49, 50] (by decide +kernel) (by decide +kernel)
set_option maxRecDepth 20000 in
theorem gX10_ofPerson_X10_placeOf : GoodIn wsX10_ofPerson (wsV RX10 136 RX10 yX10_placeOf wsX10_placeOf) := goodIn_app (goodIn_of _ (by decide +kernel)) ggX10_ofPerson_X10_placeOf
theorem dX10_ofPerson_0 : decode cX10_ofPerson 0 = .ok (.aload_n 0, 1) := by decide +kernel
theorem dX10_ofPerson_1 : decode cX10_ofPerson 1 = .ok (.iload_n 1, 1) := by decide +kernel
theorem dX10_ofPerson_2 : decode cX10_ofPerson 2 = .ok (.invokevirtual 133, 3) := by decide +kernel
theorem dX10_ofPerson_5 : decode cX10_ofPerson 5 = .ok (.ifCond .ne 5, 3) := by decide +kernel
theorem dX10_ofPerson_8 : decode cX10_ofPerson 8 = .ok (.iconst (-1), 1) := by decide +kernel
theorem dX10_ofPerson_9 : decode cX10_ofPerson 9 = .ok (.ireturn, 1) := by decide +kernel
theorem dX10_ofPerson_10 : decode cX10_ofPerson 10 = .ok (.iload_n 2, 1) := by decide +kernel
theorem dX10_ofPerson_11 : decode cX10_ofPerson 11 = .ok (.tableswitch 77 0 5 #[37, 44, 51, 58, 65, 71], 37) := by decide +kernel
theorem dX10_ofPerson_48 : decode cX10_ofPerson 48 = .ok (.aload_n 0, 1) := by decide +kernel
theorem dX10_ofPerson_49 : decode cX10_ofPerson 49 = .ok (.getfield 22, 3) := by decide +kernel
theorem dX10_ofPerson_52 : decode cX10_ofPerson 52 = .ok (.iload_n 1, 1) := by decide +kernel
theorem dX10_ofPerson_53 : decode cX10_ofPerson 53 = .ok (.iaload, 1) := by decide +kernel
theorem dX10_ofPerson_54 : decode cX10_ofPerson 54 = .ok (.ireturn, 1) := by decide +kernel
theorem dX10_ofPerson_55 : decode cX10_ofPerson 55 = .ok (.aload_n 0, 1) := by decide +kernel
theorem dX10_ofPerson_56 : decode cX10_ofPerson 56 = .ok (.getfield 25, 3) := by decide +kernel
theorem dX10_ofPerson_59 : decode cX10_ofPerson 59 = .ok (.iload_n 1, 1) := by decide +kernel
theorem dX10_ofPerson_60 : decode cX10_ofPerson 60 = .ok (.iaload, 1) := by decide +kernel
theorem dX10_ofPerson_61 : decode cX10_ofPerson 61 = .ok (.ireturn, 1) := by decide +kernel
theorem dX10_ofPerson_62 : decode cX10_ofPerson 62 = .ok (.aload_n 0, 1) := by decide +kernel
theorem dX10_ofPerson_63 : decode cX10_ofPerson 63 = .ok (.getfield 28, 3) := by decide +kernel
theorem dX10_ofPerson_66 : decode cX10_ofPerson 66 = .ok (.iload_n 1, 1) := by decide +kernel
theorem dX10_ofPerson_67 : decode cX10_ofPerson 67 = .ok (.iaload, 1) := by decide +kernel
theorem dX10_ofPerson_68 : decode cX10_ofPerson 68 = .ok (.ireturn, 1) := by decide +kernel
theorem dX10_ofPerson_69 : decode cX10_ofPerson 69 = .ok (.aload_n 0, 1) := by decide +kernel
theorem dX10_ofPerson_70 : decode cX10_ofPerson 70 = .ok (.getfield 31, 3) := by decide +kernel
theorem dX10_ofPerson_73 : decode cX10_ofPerson 73 = .ok (.iload_n 1, 1) := by decide +kernel
theorem dX10_ofPerson_74 : decode cX10_ofPerson 74 = .ok (.iaload, 1) := by decide +kernel
theorem dX10_ofPerson_75 : decode cX10_ofPerson 75 = .ok (.ireturn, 1) := by decide +kernel
theorem dX10_ofPerson_76 : decode cX10_ofPerson 76 = .ok (.aload_n 0, 1) := by decide +kernel
theorem dX10_ofPerson_77 : decode cX10_ofPerson 77 = .ok (.iload_n 1, 1) := by decide +kernel
theorem dX10_ofPerson_78 : decode cX10_ofPerson 78 = .ok (.invokevirtual 130, 3) := by decide +kernel
theorem dX10_ofPerson_81 : decode cX10_ofPerson 81 = .ok (.ireturn, 1) := by decide +kernel
theorem dX10_ofPerson_82 : decode cX10_ofPerson 82 = .ok (.aload_n 0, 1) := by decide +kernel
theorem dX10_ofPerson_83 : decode cX10_ofPerson 83 = .ok (.iload_n 1, 1) := by decide +kernel
theorem dX10_ofPerson_84 : decode cX10_ofPerson 84 = .ok (.invokevirtual 136, 3) := by decide +kernel
theorem dX10_ofPerson_87 : decode cX10_ofPerson 87 = .ok (.ireturn, 1) := by decide +kernel
theorem dX10_ofPerson_88 : decode cX10_ofPerson 88 = .ok (.bipush (-2), 2) := by decide +kernel
theorem dX10_ofPerson_90 : decode cX10_ofPerson 90 = .ok (.ireturn, 1) := by decide +kernel
set_option maxRecDepth 20000 in
theorem ggX10_worth_X10_isMatter : GoodIn wsX10_worth wsX10_isMatter := goodIn_r _ [6, 7, 8, 9, 10, 11, 12, 13, 14, 15, 16, 17, 18, 19, 20, 21, 22, 23, 24, 25, 26, 27, 28, 29, 30, 31, 32, 33, 34, 35, 36, 37, 38, 39] (by decide +kernel) (by decide +kernel)
set_option maxRecDepth 20000 in
theorem gX10_worth_X10_isMatter : GoodIn wsX10_worth (wsV RX10 139 RX10 yX10_isMatter wsX10_isMatter) := goodIn_app (goodIn_of _ (by decide +kernel)) ggX10_worth_X10_isMatter
theorem dX10_worth_0 : decode cX10_worth 0 = .ok (.aload_n 0, 1) := by decide +kernel
theorem dX10_worth_1 : decode cX10_worth 1 = .ok (.iload_n 1, 1) := by decide +kernel
theorem dX10_worth_2 : decode cX10_worth 2 = .ok (.invokevirtual 139, 3) := by decide +kernel
theorem dX10_worth_5 : decode cX10_worth 5 = .ok (.ifCond .eq 12, 3) := by decide +kernel
theorem dX10_worth_8 : decode cX10_worth 8 = .ok (.aload_n 0, 1) := by decide +kernel
theorem dX10_worth_9 : decode cX10_worth 9 = .ok (.getfield 19, 3) := by decide +kernel
theorem dX10_worth_12 : decode cX10_worth 12 = .ok (.iload_n 1, 1) := by decide +kernel
theorem dX10_worth_13 : decode cX10_worth 13 = .ok (.iaload, 1) := by decide +kernel
theorem dX10_worth_14 : decode cX10_worth 14 = .ok (.goto 4, 3) := by decide +kernel
theorem dX10_worth_17 : decode cX10_worth 17 = .ok (.iconst (-1), 1) := by decide +kernel
theorem dX10_worth_18 : decode cX10_worth 18 = .ok (.ireturn, 1) := by decide +kernel
set_option maxRecDepth 20000 in
theorem ggX10_weigh_X10_isMatter : GoodIn wsX10_weigh wsX10_isMatter := goodIn_r _ [6, 7, 11, 12, 13, 14, 15, 16, 17, 18, 19, 20, 21, 22, 23, 24, 25, 26, 27, 28, 29, 30, 31, 32, 33, 34, 35, 36, 37, 38, 39, 40, 41, 42] (by decide +kernel) (by decide +kernel)
set_option maxRecDepth 20000 in
theorem gX10_weigh_X10_isMatter : GoodIn wsX10_weigh (wsV RX10 139 RX10 yX10_isMatter wsX10_isMatter) := goodIn_app (goodIn_of _ (by decide +kernel)) ggX10_weigh_X10_isMatter
set_option maxRecDepth 20000 in
theorem ggX10_weigh_X10_within : GoodIn wsX10_weigh wsX10_within := goodIn_r _ [10] (by decide +kernel) (by decide +kernel)
set_option maxRecDepth 20000 in
theorem gX10_weigh_X10_within : GoodIn wsX10_weigh (va_wsS RX10 73 yX10_within wsX10_within) := goodIn_app (goodIn_of _ (by decide +kernel)) ggX10_weigh_X10_within
theorem dX10_weigh_0 : decode cX10_weigh 0 = .ok (.aload_n 0, 1) := by decide +kernel
theorem dX10_weigh_1 : decode cX10_weigh 1 = .ok (.iload_n 1, 1) := by decide +kernel
theorem dX10_weigh_2 : decode cX10_weigh 2 = .ok (.invokevirtual 139, 3) := by decide +kernel
theorem dX10_weigh_5 : decode cX10_weigh 5 = .ok (.ifCond .ne 5, 3) := by decide +kernel
theorem dX10_weigh_8 : decode cX10_weigh 8 = .ok (.iconst (-1), 1) := by decide +kernel
theorem dX10_weigh_9 : decode cX10_weigh 9 = .ok (.ireturn, 1) := by decide +kernel
theorem dX10_weigh_10 : decode cX10_weigh 10 = .ok (.iload_n 2, 1) := by decide +kernel
theorem dX10_weigh_11 : decode cX10_weigh 11 = .ok (.iconst 0, 1) := by decide +kernel
theorem dX10_weigh_12 : decode cX10_weigh 12 = .ok (.bipush 9, 2) := by decide +kernel
theorem dX10_weigh_14 : decode cX10_weigh 14 = .ok (.invokestatic 73, 3) := by decide +kernel
theorem dX10_weigh_17 : decode cX10_weigh 17 = .ok (.ifCond .ne 6, 3) := by decide +kernel
theorem dX10_weigh_20 : decode cX10_weigh 20 = .ok (.bipush (-2), 2) := by decide +kernel
theorem dX10_weigh_22 : decode cX10_weigh 22 = .ok (.ireturn, 1) := by decide +kernel
theorem dX10_weigh_23 : decode cX10_weigh 23 = .ok (.aload_n 0, 1) := by decide +kernel
theorem dX10_weigh_24 : decode cX10_weigh 24 = .ok (.getfield 19, 3) := by decide +kernel
theorem dX10_weigh_27 : decode cX10_weigh 27 = .ok (.iload_n 1, 1) := by decide +kernel
theorem dX10_weigh_28 : decode cX10_weigh 28 = .ok (.iaload, 1) := by decide +kernel
theorem dX10_weigh_29 : decode cX10_weigh 29 = .ok (.istore_n 3, 1) := by decide +kernel
theorem dX10_weigh_30 : decode cX10_weigh 30 = .ok (.aload_n 0, 1) := by decide +kernel
theorem dX10_weigh_31 : decode cX10_weigh 31 = .ok (.getfield 19, 3) := by decide +kernel
theorem dX10_weigh_34 : decode cX10_weigh 34 = .ok (.iload_n 1, 1) := by decide +kernel
theorem dX10_weigh_35 : decode cX10_weigh 35 = .ok (.iload_n 2, 1) := by decide +kernel
theorem dX10_weigh_36 : decode cX10_weigh 36 = .ok (.iastore, 1) := by decide +kernel
theorem dX10_weigh_37 : decode cX10_weigh 37 = .ok (.iload_n 3, 1) := by decide +kernel
theorem dX10_weigh_38 : decode cX10_weigh 38 = .ok (.ireturn, 1) := by decide +kernel
set_option maxRecDepth 20000 in
theorem ggX10_teach_X10_isPerson : GoodIn wsX10_teach wsX10_isPerson := goodIn_r _ [6, 7, 11, 12, 13, 14, 15, 16, 17, 18, 19, 20, 21, 22, 23, 24, 25, 26, 27, 28, 29, 30, 31, 32, 33, 34, 35, 36, 37, 38, 39, 40, 41, 42] (by decide +kernel) (by decide +kernel)
set_option maxRecDepth 20000 in
theorem gX10_teach_X10_isPerson : GoodIn wsX10_teach (wsV RX10 133 RX10 yX10_isPerson wsX10_isPerson) := goodIn_app (goodIn_of _ (by decide +kernel)) ggX10_teach_X10_isPerson
set_option maxRecDepth 20000 in
theorem ggX10_teach_X10_within : GoodIn wsX10_teach wsX10_within := goodIn_r _ [10] (by decide +kernel) (by decide +kernel)
set_option maxRecDepth 20000 in
theorem gX10_teach_X10_within : GoodIn wsX10_teach (va_wsS RX10 73 yX10_within wsX10_within) := goodIn_app (goodIn_of _ (by decide +kernel)) ggX10_teach_X10_within
theorem dX10_teach_0 : decode cX10_teach 0 = .ok (.aload_n 0, 1) := by decide +kernel
theorem dX10_teach_1 : decode cX10_teach 1 = .ok (.iload_n 1, 1) := by decide +kernel
theorem dX10_teach_2 : decode cX10_teach 2 = .ok (.invokevirtual 133, 3) := by decide +kernel
theorem dX10_teach_5 : decode cX10_teach 5 = .ok (.ifCond .ne 5, 3) := by decide +kernel
theorem dX10_teach_8 : decode cX10_teach 8 = .ok (.iconst (-1), 1) := by decide +kernel
theorem dX10_teach_9 : decode cX10_teach 9 = .ok (.ireturn, 1) := by decide +kernel
theorem dX10_teach_10 : decode cX10_teach 10 = .ok (.iload_n 2, 1) := by decide +kernel
theorem dX10_teach_11 : decode cX10_teach 11 = .ok (.iconst 0, 1) := by decide +kernel
theorem dX10_teach_12 : decode cX10_teach 12 = .ok (.bipush 7, 2) := by decide +kernel
theorem dX10_teach_14 : decode cX10_teach 14 = .ok (.invokestatic 73, 3) := by decide +kernel
theorem dX10_teach_17 : decode cX10_teach 17 = .ok (.ifCond .ne 6, 3) := by decide +kernel
theorem dX10_teach_20 : decode cX10_teach 20 = .ok (.bipush (-2), 2) := by decide +kernel
theorem dX10_teach_22 : decode cX10_teach 22 = .ok (.ireturn, 1) := by decide +kernel
theorem dX10_teach_23 : decode cX10_teach 23 = .ok (.aload_n 0, 1) := by decide +kernel
theorem dX10_teach_24 : decode cX10_teach 24 = .ok (.getfield 28, 3) := by decide +kernel
theorem dX10_teach_27 : decode cX10_teach 27 = .ok (.iload_n 1, 1) := by decide +kernel
theorem dX10_teach_28 : decode cX10_teach 28 = .ok (.iaload, 1) := by decide +kernel
theorem dX10_teach_29 : decode cX10_teach 29 = .ok (.istore_n 3, 1) := by decide +kernel
theorem dX10_teach_30 : decode cX10_teach 30 = .ok (.aload_n 0, 1) := by decide +kernel
theorem dX10_teach_31 : decode cX10_teach 31 = .ok (.getfield 28, 3) := by decide +kernel
theorem dX10_teach_34 : decode cX10_teach 34 = .ok (.iload_n 1, 1) := by decide +kernel
theorem dX10_teach_35 : decode cX10_teach 35 = .ok (.iload_n 2, 1) := by decide +kernel
theorem dX10_teach_36 : decode cX10_teach 36 = .ok (.iastore, 1) := by decide +kernel
theorem dX10_teach_37 : decode cX10_teach 37 = .ok (.iload_n 3, 1) := by decide +kernel
theorem dX10_teach_38 : decode cX10_teach 38 = .ok (.ireturn, 1) := by decide +kernel
set_option maxRecDepth 20000 in
theorem ggX10_sharpen_X10_isPerson : GoodIn wsX10_sharpen wsX10_isPerson := goodIn_r _ [6, 7, 11, 12, 13, 14, 15, 16, 17, 18, 19, 20, 21, 22, 23, 24, 25, 26, 27, 28, 29, 30, 31, 32, 33, 34, 35, 36, 37, 38, 39, 40, 41, 42] (by decide +kernel) (by decide +kernel)
set_option maxRecDepth 20000 in
theorem gX10_sharpen_X10_isPerson : GoodIn wsX10_sharpen (wsV RX10 133 RX10 yX10_isPerson wsX10_isPerson) := goodIn_app (goodIn_of _ (by decide +kernel)) ggX10_sharpen_X10_isPerson
set_option maxRecDepth 20000 in
theorem ggX10_sharpen_X10_within : GoodIn wsX10_sharpen wsX10_within := goodIn_r _ [10] (by decide +kernel) (by decide +kernel)
set_option maxRecDepth 20000 in
theorem gX10_sharpen_X10_within : GoodIn wsX10_sharpen (va_wsS RX10 73 yX10_within wsX10_within) := goodIn_app (goodIn_of _ (by decide +kernel)) ggX10_sharpen_X10_within
theorem dX10_sharpen_0 : decode cX10_sharpen 0 = .ok (.aload_n 0, 1) := by decide +kernel
theorem dX10_sharpen_1 : decode cX10_sharpen 1 = .ok (.iload_n 1, 1) := by decide +kernel
theorem dX10_sharpen_2 : decode cX10_sharpen 2 = .ok (.invokevirtual 133, 3) := by decide +kernel
theorem dX10_sharpen_5 : decode cX10_sharpen 5 = .ok (.ifCond .ne 5, 3) := by decide +kernel
theorem dX10_sharpen_8 : decode cX10_sharpen 8 = .ok (.iconst (-1), 1) := by decide +kernel
theorem dX10_sharpen_9 : decode cX10_sharpen 9 = .ok (.ireturn, 1) := by decide +kernel
theorem dX10_sharpen_10 : decode cX10_sharpen 10 = .ok (.iload_n 2, 1) := by decide +kernel
theorem dX10_sharpen_11 : decode cX10_sharpen 11 = .ok (.iconst 0, 1) := by decide +kernel
theorem dX10_sharpen_12 : decode cX10_sharpen 12 = .ok (.bipush 9, 2) := by decide +kernel
theorem dX10_sharpen_14 : decode cX10_sharpen 14 = .ok (.invokestatic 73, 3) := by decide +kernel
theorem dX10_sharpen_17 : decode cX10_sharpen 17 = .ok (.ifCond .ne 6, 3) := by decide +kernel
theorem dX10_sharpen_20 : decode cX10_sharpen 20 = .ok (.bipush (-2), 2) := by decide +kernel
theorem dX10_sharpen_22 : decode cX10_sharpen 22 = .ok (.ireturn, 1) := by decide +kernel
theorem dX10_sharpen_23 : decode cX10_sharpen 23 = .ok (.aload_n 0, 1) := by decide +kernel
theorem dX10_sharpen_24 : decode cX10_sharpen 24 = .ok (.getfield 31, 3) := by decide +kernel
theorem dX10_sharpen_27 : decode cX10_sharpen 27 = .ok (.iload_n 1, 1) := by decide +kernel
theorem dX10_sharpen_28 : decode cX10_sharpen 28 = .ok (.iaload, 1) := by decide +kernel
theorem dX10_sharpen_29 : decode cX10_sharpen 29 = .ok (.istore_n 3, 1) := by decide +kernel
theorem dX10_sharpen_30 : decode cX10_sharpen 30 = .ok (.aload_n 0, 1) := by decide +kernel
theorem dX10_sharpen_31 : decode cX10_sharpen 31 = .ok (.getfield 31, 3) := by decide +kernel
theorem dX10_sharpen_34 : decode cX10_sharpen 34 = .ok (.iload_n 1, 1) := by decide +kernel
theorem dX10_sharpen_35 : decode cX10_sharpen 35 = .ok (.iload_n 2, 1) := by decide +kernel
theorem dX10_sharpen_36 : decode cX10_sharpen 36 = .ok (.iastore, 1) := by decide +kernel
theorem dX10_sharpen_37 : decode cX10_sharpen 37 = .ok (.iload_n 3, 1) := by decide +kernel
theorem dX10_sharpen_38 : decode cX10_sharpen 38 = .ok (.ireturn, 1) := by decide +kernel
set_option maxRecDepth 20000 in
theorem ggX10_brings_X10_isPerson : GoodIn wsX10_brings wsX10_isPerson := goodIn_r _ [5, 6, 26, 27, 28, 29, 30, 31, 32, 33, 34, 35, 36, 37, 38, 39, 40, 41, 42, 43, 44, 45, 46, 47, 48, 49, 50, 51, 52, 53, 54, 55, 56, 57] (by decide +kernel) (by decide +kernel)
set_option maxRecDepth 20000 in
theorem gX10_brings_X10_isPerson : GoodIn wsX10_brings (wsV RX10 133 RX10 yX10_isPerson wsX10_isPerson) := goodIn_app (goodIn_of _ (by decide +kernel)) ggX10_brings_X10_isPerson
set_option maxRecDepth 20000 in
theorem ggX10_brings_X10_isMatter : GoodIn wsX10_brings wsX10_isMatter := goodIn_r _ [10, 6, 26, 27, 28, 29, 30, 31, 32, 33, 34, 35, 36, 37, 38, 39, 40, 41, 42, 43, 44, 45, 46, 47, 48, 49, 50, 51, 52, 53, 54, 55, 56, 57] (by decide +kernel) (by decide +kernel)
set_option maxRecDepth 20000 in
theorem gX10_brings_X10_isMatter : GoodIn wsX10_brings (wsV RX10 139 RX10 yX10_isMatter wsX10_isMatter) := goodIn_app (goodIn_of _ (by decide +kernel)) ggX10_brings_X10_isMatter
set_option maxRecDepth 20000 in
theorem ggX10_brings_X10_bringsOf : GoodIn wsX10_brings wsX10_bringsOf := goodIn_r _ [14, 15, 16, 17, 18, 4, 19, 20, 21, 22, 23, 24, 25, 26, 27, 28, 29, 30, 31, 32, 33, 34, 35, 36, 37, 38, 39, 40, 41, 42, 43, 44, 45, 46, 47, 48, 49, 50, 51, 52, 53, 54, 55, 56, 57] (by decide +kernel) (by decide +kernel)
set_option maxRecDepth 20000 in
theorem gX10_brings_X10_bringsOf : GoodIn wsX10_brings (wsV RX10 142 RX10 yX10_bringsOf wsX10_bringsOf) := goodIn_app (goodIn_of _ (by decide +kernel)) ggX10_brings_X10_bringsOf
theorem dX10_brings_0 : decode cX10_brings 0 = .ok (.aload_n 0, 1) := by decide +kernel
theorem dX10_brings_1 : decode cX10_brings 1 = .ok (.iload_n 1, 1) := by decide +kernel
theorem dX10_brings_2 : decode cX10_brings 2 = .ok (.invokevirtual 133, 3) := by decide +kernel
theorem dX10_brings_5 : decode cX10_brings 5 = .ok (.ifCond .eq 20, 3) := by decide +kernel
theorem dX10_brings_8 : decode cX10_brings 8 = .ok (.aload_n 0, 1) := by decide +kernel
theorem dX10_brings_9 : decode cX10_brings 9 = .ok (.iload_n 2, 1) := by decide +kernel
theorem dX10_brings_10 : decode cX10_brings 10 = .ok (.invokevirtual 139, 3) := by decide +kernel
theorem dX10_brings_13 : decode cX10_brings 13 = .ok (.ifCond .eq 12, 3) := by decide +kernel
theorem dX10_brings_16 : decode cX10_brings 16 = .ok (.aload_n 0, 1) := by decide +kernel
theorem dX10_brings_17 : decode cX10_brings 17 = .ok (.iload_n 1, 1) := by decide +kernel
theorem dX10_brings_18 : decode cX10_brings 18 = .ok (.iload_n 2, 1) := by decide +kernel
theorem dX10_brings_19 : decode cX10_brings 19 = .ok (.invokevirtual 142, 3) := by decide +kernel
theorem dX10_brings_22 : decode cX10_brings 22 = .ok (.goto 4, 3) := by decide +kernel
theorem dX10_brings_25 : decode cX10_brings 25 = .ok (.iconst (-1), 1) := by decide +kernel
theorem dX10_brings_26 : decode cX10_brings 26 = .ok (.ireturn, 1) := by decide +kernel
set_option maxRecDepth 20000 in
theorem ggX10_question_X10_isMatter : GoodIn wsX10_question wsX10_isMatter := goodIn_r _ [8, 9, 29, 30, 31, 32, 33, 34, 35, 36, 37, 38, 39, 40, 41, 42, 43, 44, 45, 46, 47, 48, 49, 50, 51, 52, 53, 54, 55, 56, 57, 58, 59, 60] (by decide +kernel) (by decide +kernel)
set_option maxRecDepth 20000 in
theorem gX10_question_X10_isMatter : GoodIn wsX10_question (wsV RX10 139 RX10 yX10_isMatter wsX10_isMatter) := goodIn_app (goodIn_of _ (by decide +kernel)) ggX10_question_X10_isMatter
set_option maxRecDepth 20000 in
theorem ggX10_question_X10_firstOf : GoodIn wsX10_question wsX10_firstOf := goodIn_r _ [13, 9, 1, 29, 30, 31, 32, 33, 34, 35, 36, 37, 38, 39, 40, 41, 42, 43, 44, 45, 46, 47, 48, 49, 50, 51, 52, 53, 54, 55, 56, 57, 58, 59, 60] (by decide +kernel) (by decide +kernel)
set_option maxRecDepth 20000 in
theorem gX10_question_X10_firstOf : GoodIn wsX10_question (wsV RX10 145 RX10 yX10_firstOf wsX10_firstOf) := goodIn_app (goodIn_of _ (by decide +kernel)) ggX10_question_X10_firstOf
set_option maxRecDepth 20000 in
theorem ggX10_question_X10_bringsOf : GoodIn wsX10_question wsX10_bringsOf := goodIn_r _ [17, 18, 19, 20, 21, 7, 22, 23, 24, 25, 26, 27, 28, 29, 30, 31, 32, 33, 34, 35, 36, 37, 38, 39, 40, 41, 42, 43, 44, 45, 46, 47, 48, 49, 50, 51, 52, 53, 54, 55, 56, 57, 58, 59, 60] (by decide +kernel) (by decide +kernel)
set_option maxRecDepth 20000 in
theorem gX10_question_X10_bringsOf : GoodIn wsX10_question (wsV RX10 142 RX10 yX10_bringsOf wsX10_bringsOf) := goodIn_app (goodIn_of _ (by decide +kernel)) ggX10_question_X10_bringsOf
theorem dX10_question_0 : decode cX10_question 0 = .ok (.aload_n 0, 1) := by decide +kernel
theorem dX10_question_1 : decode cX10_question 1 = .ok (.iload_n 1, 1) := by decide +kernel
theorem dX10_question_2 : decode cX10_question 2 = .ok (.invokevirtual 139, 3) := by decide +kernel
theorem dX10_question_5 : decode cX10_question 5 = .ok (.ifCond .ne 5, 3) := by decide +kernel
theorem dX10_question_8 : decode cX10_question 8 = .ok (.iconst (-1), 1) := by decide +kernel
theorem dX10_question_9 : decode cX10_question 9 = .ok (.ireturn, 1) := by decide +kernel
theorem dX10_question_10 : decode cX10_question 10 = .ok (.aload_n 0, 1) := by decide +kernel
theorem dX10_question_11 : decode cX10_question 11 = .ok (.invokevirtual 145, 3) := by decide +kernel
theorem dX10_question_14 : decode cX10_question 14 = .ok (.istore_n 2, 1) := by decide +kernel
theorem dX10_question_15 : decode cX10_question 15 = .ok (.aload_n 0, 1) := by decide +kernel
theorem dX10_question_16 : decode cX10_question 16 = .ok (.getfield 25, 3) := by decide +kernel
theorem dX10_question_19 : decode cX10_question 19 = .ok (.iload_n 2, 1) := by decide +kernel
theorem dX10_question_20 : decode cX10_question 20 = .ok (.dup2, 1) := by decide +kernel
theorem dX10_question_21 : decode cX10_question 21 = .ok (.iaload, 1) := by decide +kernel
theorem dX10_question_22 : decode cX10_question 22 = .ok (.iconst 1, 1) := by decide +kernel
theorem dX10_question_23 : decode cX10_question 23 = .ok (.iadd, 1) := by decide +kernel
theorem dX10_question_24 : decode cX10_question 24 = .ok (.iastore, 1) := by decide +kernel
theorem dX10_question_25 : decode cX10_question 25 = .ok (.aload_n 0, 1) := by decide +kernel
theorem dX10_question_26 : decode cX10_question 26 = .ok (.dup, 1) := by decide +kernel
theorem dX10_question_27 : decode cX10_question 27 = .ok (.getfield 107, 3) := by decide +kernel
theorem dX10_question_30 : decode cX10_question 30 = .ok (.iconst 1, 1) := by decide +kernel
theorem dX10_question_31 : decode cX10_question 31 = .ok (.iadd, 1) := by decide +kernel
theorem dX10_question_32 : decode cX10_question 32 = .ok (.putfield 107, 3) := by decide +kernel
theorem dX10_question_35 : decode cX10_question 35 = .ok (.aload_n 0, 1) := by decide +kernel
theorem dX10_question_36 : decode cX10_question 36 = .ok (.dup, 1) := by decide +kernel
theorem dX10_question_37 : decode cX10_question 37 = .ok (.getfield 110, 3) := by decide +kernel
theorem dX10_question_40 : decode cX10_question 40 = .ok (.aload_n 0, 1) := by decide +kernel
theorem dX10_question_41 : decode cX10_question 41 = .ok (.iload_n 2, 1) := by decide +kernel
theorem dX10_question_42 : decode cX10_question 42 = .ok (.iload_n 1, 1) := by decide +kernel
theorem dX10_question_43 : decode cX10_question 43 = .ok (.invokevirtual 142, 3) := by decide +kernel
theorem dX10_question_46 : decode cX10_question 46 = .ok (.iadd, 1) := by decide +kernel
theorem dX10_question_47 : decode cX10_question 47 = .ok (.putfield 110, 3) := by decide +kernel
theorem dX10_question_50 : decode cX10_question 50 = .ok (.iload_n 2, 1) := by decide +kernel
theorem dX10_question_51 : decode cX10_question 51 = .ok (.ireturn, 1) := by decide +kernel
set_option maxRecDepth 20000 in
theorem ggX10_feint_X10_isPerson : GoodIn wsX10_feint wsX10_isPerson := goodIn_r _ [6, 7, 12, 13, 14, 15, 16, 17, 18, 19, 20, 21, 22, 23, 24, 25, 26, 27, 28, 29, 30, 31, 32, 33, 34, 35, 36, 37, 38, 39, 40, 41, 42, 43] (by decide +kernel) (by decide +kernel)
set_option maxRecDepth 20000 in
theorem gX10_feint_X10_isPerson : GoodIn wsX10_feint (wsV RX10 133 RX10 yX10_isPerson wsX10_isPerson) := goodIn_app (goodIn_of _ (by decide +kernel)) ggX10_feint_X10_isPerson
set_option maxRecDepth 20000 in
theorem ggX10_feint_X10_firstOf : GoodIn wsX10_feint wsX10_firstOf := goodIn_r _ [11, 7, 1, 12, 13, 14, 15, 16, 17, 18, 19, 20, 21, 22, 23, 24, 25, 26, 27, 28, 29, 30, 31, 32, 33, 34, 35, 36, 37, 38, 39, 40, 41, 42, 43] (by decide +kernel) (by decide +kernel)
set_option maxRecDepth 20000 in
theorem gX10_feint_X10_firstOf : GoodIn wsX10_feint (wsV RX10 145 RX10 yX10_firstOf wsX10_firstOf) := goodIn_app (goodIn_of _ (by decide +kernel)) ggX10_feint_X10_firstOf
theorem dX10_feint_0 : decode cX10_feint 0 = .ok (.aload_n 0, 1) := by decide +kernel
theorem dX10_feint_1 : decode cX10_feint 1 = .ok (.iload_n 1, 1) := by decide +kernel
theorem dX10_feint_2 : decode cX10_feint 2 = .ok (.invokevirtual 133, 3) := by decide +kernel
theorem dX10_feint_5 : decode cX10_feint 5 = .ok (.ifCond .ne 5, 3) := by decide +kernel
theorem dX10_feint_8 : decode cX10_feint 8 = .ok (.iconst (-1), 1) := by decide +kernel
theorem dX10_feint_9 : decode cX10_feint 9 = .ok (.ireturn, 1) := by decide +kernel
theorem dX10_feint_10 : decode cX10_feint 10 = .ok (.iload_n 1, 1) := by decide +kernel
theorem dX10_feint_11 : decode cX10_feint 11 = .ok (.aload_n 0, 1) := by decide +kernel
theorem dX10_feint_12 : decode cX10_feint 12 = .ok (.invokevirtual 145, 3) := by decide +kernel
theorem dX10_feint_15 : decode cX10_feint 15 = .ok (.if_icmp .eq 6, 3) := by decide +kernel
theorem dX10_feint_18 : decode cX10_feint 18 = .ok (.bipush (-3), 2) := by decide +kernel
theorem dX10_feint_20 : decode cX10_feint 20 = .ok (.ireturn, 1) := by decide +kernel
theorem dX10_feint_21 : decode cX10_feint 21 = .ok (.aload_n 0, 1) := by decide +kernel
theorem dX10_feint_22 : decode cX10_feint 22 = .ok (.getfield 25, 3) := by decide +kernel
theorem dX10_feint_25 : decode cX10_feint 25 = .ok (.iload_n 1, 1) := by decide +kernel
theorem dX10_feint_26 : decode cX10_feint 26 = .ok (.dup2, 1) := by decide +kernel
theorem dX10_feint_27 : decode cX10_feint 27 = .ok (.iaload, 1) := by decide +kernel
theorem dX10_feint_28 : decode cX10_feint 28 = .ok (.iconst 1, 1) := by decide +kernel
theorem dX10_feint_29 : decode cX10_feint 29 = .ok (.iadd, 1) := by decide +kernel
theorem dX10_feint_30 : decode cX10_feint 30 = .ok (.iastore, 1) := by decide +kernel
theorem dX10_feint_31 : decode cX10_feint 31 = .ok (.aload_n 0, 1) := by decide +kernel
theorem dX10_feint_32 : decode cX10_feint 32 = .ok (.getfield 25, 3) := by decide +kernel
theorem dX10_feint_35 : decode cX10_feint 35 = .ok (.iload_n 1, 1) := by decide +kernel
theorem dX10_feint_36 : decode cX10_feint 36 = .ok (.iaload, 1) := by decide +kernel
theorem dX10_feint_37 : decode cX10_feint 37 = .ok (.ireturn, 1) := by decide +kernel
theorem dX10_keep_0 : decode cX10_keep 0 = .ok (.iconst 0, 1) := by decide +kernel
theorem dX10_keep_1 : decode cX10_keep 1 = .ok (.istore_n 1, 1) := by decide +kernel
theorem dX10_keep_2 : decode cX10_keep 2 = .ok (.iload_n 1, 1) := by decide +kernel
theorem dX10_keep_3 : decode cX10_keep 3 = .ok (.aload_n 0, 1) := by decide +kernel
theorem dX10_keep_4 : decode cX10_keep 4 = .ok (.getfield 77, 3) := by decide +kernel
theorem dX10_keep_7 : decode cX10_keep 7 = .ok (.if_icmp .ge 33, 3) := by decide +kernel
theorem dX10_keep_10 : decode cX10_keep 10 = .ok (.aload_n 0, 1) := by decide +kernel
theorem dX10_keep_11 : decode cX10_keep 11 = .ok (.getfield 40, 3) := by decide +kernel
theorem dX10_keep_14 : decode cX10_keep 14 = .ok (.iload_n 1, 1) := by decide +kernel
theorem dX10_keep_15 : decode cX10_keep 15 = .ok (.aload_n 0, 1) := by decide +kernel
theorem dX10_keep_16 : decode cX10_keep 16 = .ok (.getfield 25, 3) := by decide +kernel
theorem dX10_keep_19 : decode cX10_keep 19 = .ok (.iload_n 1, 1) := by decide +kernel
theorem dX10_keep_20 : decode cX10_keep 20 = .ok (.iaload, 1) := by decide +kernel
theorem dX10_keep_21 : decode cX10_keep 21 = .ok (.iastore, 1) := by decide +kernel
theorem dX10_keep_22 : decode cX10_keep 22 = .ok (.aload_n 0, 1) := by decide +kernel
theorem dX10_keep_23 : decode cX10_keep 23 = .ok (.getfield 43, 3) := by decide +kernel
theorem dX10_keep_26 : decode cX10_keep 26 = .ok (.iload_n 1, 1) := by decide +kernel
theorem dX10_keep_27 : decode cX10_keep 27 = .ok (.aload_n 0, 1) := by decide +kernel
theorem dX10_keep_28 : decode cX10_keep 28 = .ok (.getfield 28, 3) := by decide +kernel
theorem dX10_keep_31 : decode cX10_keep 31 = .ok (.iload_n 1, 1) := by decide +kernel
theorem dX10_keep_32 : decode cX10_keep 32 = .ok (.iaload, 1) := by decide +kernel
theorem dX10_keep_33 : decode cX10_keep 33 = .ok (.iastore, 1) := by decide +kernel
theorem dX10_keep_34 : decode cX10_keep 34 = .ok (.iinc 1 1, 3) := by decide +kernel
theorem dX10_keep_37 : decode cX10_keep 37 = .ok (.goto (-35), 3) := by decide +kernel
theorem dX10_keep_40 : decode cX10_keep 40 = .ok (.return_, 1) := by decide +kernel
theorem dX10_putBack_0 : decode cX10_putBack 0 = .ok (.iconst 0, 1) := by decide +kernel
theorem dX10_putBack_1 : decode cX10_putBack 1 = .ok (.istore_n 1, 1) := by decide +kernel
theorem dX10_putBack_2 : decode cX10_putBack 2 = .ok (.iload_n 1, 1) := by decide +kernel
theorem dX10_putBack_3 : decode cX10_putBack 3 = .ok (.aload_n 0, 1) := by decide +kernel
theorem dX10_putBack_4 : decode cX10_putBack 4 = .ok (.getfield 77, 3) := by decide +kernel
theorem dX10_putBack_7 : decode cX10_putBack 7 = .ok (.if_icmp .ge 33, 3) := by decide +kernel
theorem dX10_putBack_10 : decode cX10_putBack 10 = .ok (.aload_n 0, 1) := by decide +kernel
theorem dX10_putBack_11 : decode cX10_putBack 11 = .ok (.getfield 25, 3) := by decide +kernel
theorem dX10_putBack_14 : decode cX10_putBack 14 = .ok (.iload_n 1, 1) := by decide +kernel
theorem dX10_putBack_15 : decode cX10_putBack 15 = .ok (.aload_n 0, 1) := by decide +kernel
theorem dX10_putBack_16 : decode cX10_putBack 16 = .ok (.getfield 40, 3) := by decide +kernel
theorem dX10_putBack_19 : decode cX10_putBack 19 = .ok (.iload_n 1, 1) := by decide +kernel
theorem dX10_putBack_20 : decode cX10_putBack 20 = .ok (.iaload, 1) := by decide +kernel
theorem dX10_putBack_21 : decode cX10_putBack 21 = .ok (.iastore, 1) := by decide +kernel
theorem dX10_putBack_22 : decode cX10_putBack 22 = .ok (.aload_n 0, 1) := by decide +kernel
theorem dX10_putBack_23 : decode cX10_putBack 23 = .ok (.getfield 28, 3) := by decide +kernel
theorem dX10_putBack_26 : decode cX10_putBack 26 = .ok (.iload_n 1, 1) := by decide +kernel
theorem dX10_putBack_27 : decode cX10_putBack 27 = .ok (.aload_n 0, 1) := by decide +kernel
theorem dX10_putBack_28 : decode cX10_putBack 28 = .ok (.getfield 43, 3) := by decide +kernel
theorem dX10_putBack_31 : decode cX10_putBack 31 = .ok (.iload_n 1, 1) := by decide +kernel
theorem dX10_putBack_32 : decode cX10_putBack 32 = .ok (.iaload, 1) := by decide +kernel
theorem dX10_putBack_33 : decode cX10_putBack 33 = .ok (.iastore, 1) := by decide +kernel
theorem dX10_putBack_34 : decode cX10_putBack 34 = .ok (.iinc 1 1, 3) := by decide +kernel
theorem dX10_putBack_37 : decode cX10_putBack 37 = .ok (.goto (-35), 3) := by decide +kernel
theorem dX10_putBack_40 : decode cX10_putBack 40 = .ok (.return_, 1) := by decide +kernel
set_option maxRecDepth 20000 in
theorem ggX10_does_X10_firstOf : GoodIn wsX10_does wsX10_firstOf := goodIn_r _ [10, 11, 2, 30, 31, 32, 33, 34, 35, 36, 37, 38, 39, 40, 41, 42, 43, 44, 45, 46, 47, 48, 49, 50, 51, 52, 53, 54, 55, 56, 57, 58, 59, 60, 61] (by decide +kernel) (by decide +kernel)
set_option maxRecDepth 20000 in
theorem gX10_does_X10_firstOf : GoodIn wsX10_does (wsV RX10 145 RX10 yX10_firstOf wsX10_firstOf) := goodIn_app (goodIn_of _ (by decide +kernel)) ggX10_does_X10_firstOf
set_option maxRecDepth 20000 in
theorem ggX10_does_X10_isPerson : GoodIn wsX10_does wsX10_isPerson := goodIn_r _ [15, 11, 30, 31, 32, 33, 34, 35, 36, 37, 38, 39, 40, 41, 42, 43, 44, 45, 46, 47, 48, 49, 50, 51, 52, 53, 54, 55, 56, 57, 58, 59, 60, 61] (by decide +kernel) (by decide +kernel)
set_option maxRecDepth 20000 in
theorem gX10_does_X10_isPerson : GoodIn wsX10_does (wsV RX10 133 RX10 yX10_isPerson wsX10_isPerson) := goodIn_app (goodIn_of _ (by decide +kernel)) ggX10_does_X10_isPerson
set_option maxRecDepth 20000 in
theorem ggX10_does_X10_bringsOf : GoodIn wsX10_does wsX10_bringsOf := goodIn_r _ [19, 1, 20, 21, 22, 9, 23, 24, 25, 26, 27, 28, 29, 30, 31, 32, 33, 34, 35, 36, 37, 38, 39, 40, 41, 42, 43, 44, 45, 46, 47, 48, 49, 50, 51, 52, 53, 54, 55, 56, 57, 58, 59, 60, 61] (by decide +kernel) (by decide +kernel)
set_option maxRecDepth 20000 in
theorem gX10_does_X10_bringsOf : GoodIn wsX10_does (wsV RX10 142 RX10 yX10_bringsOf wsX10_bringsOf) := goodIn_app (goodIn_of _ (by decide +kernel)) ggX10_does_X10_bringsOf
set_option maxRecDepth 20000 in
theorem ggX10_does_X10_isOf : GoodIn wsX10_does wsX10_isOf := goodIn_r _ [23] (by decide +kernel) (by decide +kernel)
set_option maxRecDepth 20000 in
theorem gX10_does_X10_isOf : GoodIn wsX10_does (va_wsS RX10 127 yX10_isOf wsX10_isOf) := goodIn_app (goodIn_of _ (by decide +kernel)) ggX10_does_X10_isOf
theorem dX10_does_0 : decode cX10_does 0 = .ok (.aload_n 0, 1) := by decide +kernel
theorem dX10_does_1 : decode cX10_does 1 = .ok (.invokevirtual 145, 3) := by decide +kernel
theorem dX10_does_4 : decode cX10_does 4 = .ok (.istore_n 3, 1) := by decide +kernel
theorem dX10_does_5 : decode cX10_does 5 = .ok (.iload_n 2, 1) := by decide +kernel
theorem dX10_does_6 : decode cX10_does 6 = .ok (.bipush 10, 2) := by decide +kernel
theorem dX10_does_8 : decode cX10_does 8 = .ok (.if_icmp .lt 28, 3) := by decide +kernel
theorem dX10_does_11 : decode cX10_does 11 = .ok (.aload_n 0, 1) := by decide +kernel
theorem dX10_does_12 : decode cX10_does 12 = .ok (.iload_n 2, 1) := by decide +kernel
theorem dX10_does_13 : decode cX10_does 13 = .ok (.bipush 10, 2) := by decide +kernel
theorem dX10_does_15 : decode cX10_does 15 = .ok (.isub, 1) := by decide +kernel
theorem dX10_does_16 : decode cX10_does 16 = .ok (.invokevirtual 133, 3) := by decide +kernel
theorem dX10_does_19 : decode cX10_does 19 = .ok (.ifCond .ne 5, 3) := by decide +kernel
theorem dX10_does_22 : decode cX10_does 22 = .ok (.iconst 0, 1) := by decide +kernel
theorem dX10_does_23 : decode cX10_does 23 = .ok (.ireturn, 1) := by decide +kernel
theorem dX10_does_24 : decode cX10_does 24 = .ok (.aload_n 0, 1) := by decide +kernel
theorem dX10_does_25 : decode cX10_does 25 = .ok (.getfield 28, 3) := by decide +kernel
theorem dX10_does_28 : decode cX10_does 28 = .ok (.iload_n 2, 1) := by decide +kernel
theorem dX10_does_29 : decode cX10_does 29 = .ok (.bipush 10, 2) := by decide +kernel
theorem dX10_does_31 : decode cX10_does 31 = .ok (.isub, 1) := by decide +kernel
theorem dX10_does_32 : decode cX10_does 32 = .ok (.iload_n 1, 1) := by decide +kernel
theorem dX10_does_33 : decode cX10_does 33 = .ok (.iastore, 1) := by decide +kernel
theorem dX10_does_34 : decode cX10_does 34 = .ok (.iconst 1, 1) := by decide +kernel
theorem dX10_does_35 : decode cX10_does 35 = .ok (.ireturn, 1) := by decide +kernel
theorem dX10_does_36 : decode cX10_does 36 = .ok (.iload_n 2, 1) := by decide +kernel
theorem dX10_does_37 : decode cX10_does 37 = .ok (.iconst 1, 1) := by decide +kernel
theorem dX10_does_38 : decode cX10_does 38 = .ok (.if_icmp .ne 33, 3) := by decide +kernel
theorem dX10_does_41 : decode cX10_does 41 = .ok (.aload_n 0, 1) := by decide +kernel
theorem dX10_does_42 : decode cX10_does 42 = .ok (.getfield 25, 3) := by decide +kernel
theorem dX10_does_45 : decode cX10_does 45 = .ok (.iload_n 3, 1) := by decide +kernel
theorem dX10_does_46 : decode cX10_does 46 = .ok (.dup2, 1) := by decide +kernel
theorem dX10_does_47 : decode cX10_does 47 = .ok (.iaload, 1) := by decide +kernel
theorem dX10_does_48 : decode cX10_does 48 = .ok (.iload_n 1, 1) := by decide +kernel
theorem dX10_does_49 : decode cX10_does 49 = .ok (.iload_n 3, 1) := by decide +kernel
theorem dX10_does_50 : decode cX10_does 50 = .ok (.if_icmp .ne 7, 3) := by decide +kernel
theorem dX10_does_53 : decode cX10_does 53 = .ok (.iconst 1, 1) := by decide +kernel
theorem dX10_does_54 : decode cX10_does 54 = .ok (.goto 4, 3) := by decide +kernel
theorem dX10_does_57 : decode cX10_does 57 = .ok (.iconst 0, 1) := by decide +kernel
theorem dX10_does_58 : decode cX10_does 58 = .ok (.iadd, 1) := by decide +kernel
theorem dX10_does_59 : decode cX10_does 59 = .ok (.iastore, 1) := by decide +kernel
theorem dX10_does_60 : decode cX10_does 60 = .ok (.iload_n 1, 1) := by decide +kernel
theorem dX10_does_61 : decode cX10_does 61 = .ok (.iload_n 3, 1) := by decide +kernel
theorem dX10_does_62 : decode cX10_does 62 = .ok (.if_icmp .ne 7, 3) := by decide +kernel
theorem dX10_does_65 : decode cX10_does 65 = .ok (.iconst 1, 1) := by decide +kernel
theorem dX10_does_66 : decode cX10_does 66 = .ok (.goto 4, 3) := by decide +kernel
theorem dX10_does_69 : decode cX10_does 69 = .ok (.iconst 0, 1) := by decide +kernel
theorem dX10_does_70 : decode cX10_does 70 = .ok (.ireturn, 1) := by decide +kernel
theorem dX10_does_71 : decode cX10_does 71 = .ok (.aload_n 0, 1) := by decide +kernel
theorem dX10_does_72 : decode cX10_does 72 = .ok (.getfield 25, 3) := by decide +kernel
theorem dX10_does_75 : decode cX10_does 75 = .ok (.iload_n 3, 1) := by decide +kernel
theorem dX10_does_76 : decode cX10_does 76 = .ok (.dup2, 1) := by decide +kernel
theorem dX10_does_77 : decode cX10_does 77 = .ok (.iaload, 1) := by decide +kernel
theorem dX10_does_78 : decode cX10_does 78 = .ok (.iconst 1, 1) := by decide +kernel
theorem dX10_does_79 : decode cX10_does 79 = .ok (.iadd, 1) := by decide +kernel
theorem dX10_does_80 : decode cX10_does 80 = .ok (.iastore, 1) := by decide +kernel
theorem dX10_does_81 : decode cX10_does 81 = .ok (.aload_n 0, 1) := by decide +kernel
theorem dX10_does_82 : decode cX10_does 82 = .ok (.dup, 1) := by decide +kernel
theorem dX10_does_83 : decode cX10_does 83 = .ok (.getfield 149, 3) := by decide +kernel
theorem dX10_does_86 : decode cX10_does 86 = .ok (.aload_n 0, 1) := by decide +kernel
theorem dX10_does_87 : decode cX10_does 87 = .ok (.iload_n 3, 1) := by decide +kernel
theorem dX10_does_88 : decode cX10_does 88 = .ok (.iload_n 1, 1) := by decide +kernel
theorem dX10_does_89 : decode cX10_does 89 = .ok (.invokevirtual 142, 3) := by decide +kernel
theorem dX10_does_92 : decode cX10_does 92 = .ok (.iadd, 1) := by decide +kernel
theorem dX10_does_93 : decode cX10_does 93 = .ok (.putfield 149, 3) := by decide +kernel
theorem dX10_does_96 : decode cX10_does 96 = .ok (.aload_n 0, 1) := by decide +kernel
theorem dX10_does_97 : decode cX10_does 97 = .ok (.dup, 1) := by decide +kernel
theorem dX10_does_98 : decode cX10_does 98 = .ok (.getfield 152, 3) := by decide +kernel
theorem dX10_does_101 : decode cX10_does 101 = .ok (.iconst 1, 1) := by decide +kernel
theorem dX10_does_102 : decode cX10_does 102 = .ok (.iload_n 3, 1) := by decide +kernel
theorem dX10_does_103 : decode cX10_does 103 = .ok (.ishl, 1) := by decide +kernel
theorem dX10_does_104 : decode cX10_does 104 = .ok (.ior, 1) := by decide +kernel
theorem dX10_does_105 : decode cX10_does 105 = .ok (.putfield 152, 3) := by decide +kernel
theorem dX10_does_108 : decode cX10_does 108 = .ok (.aload_n 0, 1) := by decide +kernel
theorem dX10_does_109 : decode cX10_does 109 = .ok (.dup, 1) := by decide +kernel
theorem dX10_does_110 : decode cX10_does 110 = .ok (.getfield 155, 3) := by decide +kernel
theorem dX10_does_113 : decode cX10_does 113 = .ok (.aload_n 0, 1) := by decide +kernel
theorem dX10_does_114 : decode cX10_does 114 = .ok (.getfield 28, 3) := by decide +kernel
theorem dX10_does_117 : decode cX10_does 117 = .ok (.iload_n 3, 1) := by decide +kernel
theorem dX10_does_118 : decode cX10_does 118 = .ok (.iaload, 1) := by decide +kernel
theorem dX10_does_119 : decode cX10_does 119 = .ok (.iload_n 1, 1) := by decide +kernel
theorem dX10_does_120 : decode cX10_does 120 = .ok (.invokestatic 127, 3) := by decide +kernel
theorem dX10_does_123 : decode cX10_does 123 = .ok (.ifCond .eq 7, 3) := by decide +kernel
theorem dX10_does_126 : decode cX10_does 126 = .ok (.iconst 1, 1) := by decide +kernel
theorem dX10_does_127 : decode cX10_does 127 = .ok (.goto 4, 3) := by decide +kernel
theorem dX10_does_130 : decode cX10_does 130 = .ok (.iconst 0, 1) := by decide +kernel
theorem dX10_does_131 : decode cX10_does 131 = .ok (.iadd, 1) := by decide +kernel
theorem dX10_does_132 : decode cX10_does 132 = .ok (.putfield 155, 3) := by decide +kernel
theorem dX10_does_135 : decode cX10_does 135 = .ok (.iconst 1, 1) := by decide +kernel
theorem dX10_does_136 : decode cX10_does 136 = .ok (.ireturn, 1) := by decide +kernel
set_option maxRecDepth 20000 in
theorem ggX10_goYear_X10_does : GoodIn wsX10_goYear wsX10_does := goodIn_r _ [9, 10, 11, 1, 2, 3, 12, 13, 14, 8, 15, 16, 17, 18, 19, 20, 21, 22, 23, 24, 25, 26, 27, 28, 29, 30, 31, 32, 33, 34, 35, 36, 37, 38, 39, 40, 41, 42, 43, 44, 45, 46, 47, 48, 49, 50, 51, 52, 53, 54, 55, 56, 57, 58, 59, 60, 61, 62, 63, 64, 65, 66] (by decide +kernel) (by decide +kernel)
set_option maxRecDepth 20000 in
theorem gX10_goYear_X10_does : GoodIn wsX10_goYear (wsV RX10 158 RX10 yX10_does wsX10_does) := goodIn_app (goodIn_of _ (by decide +kernel)) ggX10_goYear_X10_does
theorem dX10_goYear_0 : decode cX10_goYear 0 = .ok (.aload_n 0, 1) := by decide +kernel
theorem dX10_goYear_1 : decode cX10_goYear 1 = .ok (.iconst 0, 1) := by decide +kernel
theorem dX10_goYear_2 : decode cX10_goYear 2 = .ok (.putfield 149, 3) := by decide +kernel
theorem dX10_goYear_5 : decode cX10_goYear 5 = .ok (.aload_n 0, 1) := by decide +kernel
theorem dX10_goYear_6 : decode cX10_goYear 6 = .ok (.iconst 0, 1) := by decide +kernel
theorem dX10_goYear_7 : decode cX10_goYear 7 = .ok (.putfield 152, 3) := by decide +kernel
theorem dX10_goYear_10 : decode cX10_goYear 10 = .ok (.aload_n 0, 1) := by decide +kernel
theorem dX10_goYear_11 : decode cX10_goYear 11 = .ok (.iconst 0, 1) := by decide +kernel
theorem dX10_goYear_12 : decode cX10_goYear 12 = .ok (.putfield 155, 3) := by decide +kernel
theorem dX10_goYear_15 : decode cX10_goYear 15 = .ok (.iconst 0, 1) := by decide +kernel
theorem dX10_goYear_16 : decode cX10_goYear 16 = .ok (.istore_n 3, 1) := by decide +kernel
theorem dX10_goYear_17 : decode cX10_goYear 17 = .ok (.iload_n 3, 1) := by decide +kernel
theorem dX10_goYear_18 : decode cX10_goYear 18 = .ok (.iload_n 2, 1) := by decide +kernel
theorem dX10_goYear_19 : decode cX10_goYear 19 = .ok (.if_icmp .ge 40, 3) := by decide +kernel
theorem dX10_goYear_22 : decode cX10_goYear 22 = .ok (.aload_n 0, 1) := by decide +kernel
theorem dX10_goYear_23 : decode cX10_goYear 23 = .ok (.aload_n 0, 1) := by decide +kernel
theorem dX10_goYear_24 : decode cX10_goYear 24 = .ok (.getfield 16, 3) := by decide +kernel
theorem dX10_goYear_27 : decode cX10_goYear 27 = .ok (.iload_n 1, 1) := by decide +kernel
theorem dX10_goYear_28 : decode cX10_goYear 28 = .ok (.iconst 2, 1) := by decide +kernel
theorem dX10_goYear_29 : decode cX10_goYear 29 = .ok (.iload_n 3, 1) := by decide +kernel
theorem dX10_goYear_30 : decode cX10_goYear 30 = .ok (.imul, 1) := by decide +kernel
theorem dX10_goYear_31 : decode cX10_goYear 31 = .ok (.iadd, 1) := by decide +kernel
theorem dX10_goYear_32 : decode cX10_goYear 32 = .ok (.iaload, 1) := by decide +kernel
theorem dX10_goYear_33 : decode cX10_goYear 33 = .ok (.aload_n 0, 1) := by decide +kernel
theorem dX10_goYear_34 : decode cX10_goYear 34 = .ok (.getfield 16, 3) := by decide +kernel
theorem dX10_goYear_37 : decode cX10_goYear 37 = .ok (.iload_n 1, 1) := by decide +kernel
theorem dX10_goYear_38 : decode cX10_goYear 38 = .ok (.iconst 2, 1) := by decide +kernel
theorem dX10_goYear_39 : decode cX10_goYear 39 = .ok (.iload_n 3, 1) := by decide +kernel
theorem dX10_goYear_40 : decode cX10_goYear 40 = .ok (.imul, 1) := by decide +kernel
theorem dX10_goYear_41 : decode cX10_goYear 41 = .ok (.iadd, 1) := by decide +kernel
theorem dX10_goYear_42 : decode cX10_goYear 42 = .ok (.iconst 1, 1) := by decide +kernel
theorem dX10_goYear_43 : decode cX10_goYear 43 = .ok (.iadd, 1) := by decide +kernel
theorem dX10_goYear_44 : decode cX10_goYear 44 = .ok (.iaload, 1) := by decide +kernel
theorem dX10_goYear_45 : decode cX10_goYear 45 = .ok (.invokevirtual 158, 3) := by decide +kernel
theorem dX10_goYear_48 : decode cX10_goYear 48 = .ok (.ifCond .ne 5, 3) := by decide +kernel
theorem dX10_goYear_51 : decode cX10_goYear 51 = .ok (.iload_n 3, 1) := by decide +kernel
theorem dX10_goYear_52 : decode cX10_goYear 52 = .ok (.ireturn, 1) := by decide +kernel
theorem dX10_goYear_53 : decode cX10_goYear 53 = .ok (.iinc 3 1, 3) := by decide +kernel
theorem dX10_goYear_56 : decode cX10_goYear 56 = .ok (.goto (-39), 3) := by decide +kernel
theorem dX10_goYear_59 : decode cX10_goYear 59 = .ok (.bipush (-9), 2) := by decide +kernel
theorem dX10_goYear_61 : decode cX10_goYear 61 = .ok (.ireturn, 1) := by decide +kernel
set_option maxRecDepth 20000 in
theorem ggX10_refusesPair_X10_within : GoodIn wsX10_refusesPair wsX10_within := goodIn_r _ [4] (by decide +kernel) (by decide +kernel)
set_option maxRecDepth 20000 in
theorem gX10_refusesPair_X10_within : GoodIn wsX10_refusesPair (va_wsS RX10 73 yX10_within wsX10_within) := goodIn_app (goodIn_of _ (by decide +kernel)) ggX10_refusesPair_X10_within
set_option maxRecDepth 20000 in
theorem ggX10_refusesPair_X10_isMatter : GoodIn wsX10_refusesPair wsX10_isMatter := goodIn_r _ [8, 9, 14, 15, 16, 17, 18, 19, 20, 21, 22, 23, 24, 25, 26, 27, 28, 29, 30, 31, 32, 33, 34, 35, 36, 37, 38, 39, 40, 41, 42, 43, 44, 45] (by decide +kernel) (by decide +kernel)
set_option maxRecDepth 20000 in
theorem gX10_refusesPair_X10_isMatter : GoodIn wsX10_refusesPair (wsV RX10 139 RX10 yX10_isMatter wsX10_isMatter) := goodIn_app (goodIn_of _ (by decide +kernel)) ggX10_refusesPair_X10_isMatter
set_option maxRecDepth 20000 in
theorem ggX10_refusesPair_X10_isPerson : GoodIn wsX10_refusesPair wsX10_isPerson := goodIn_r _ [13, 9, 14, 15, 16, 17, 18, 19, 20, 21, 22, 23, 24, 25, 26, 27, 28, 29, 30, 31, 32, 33, 34, 35, 36, 37, 38, 39, 40, 41, 42, 43, 44, 45] (by decide +kernel) (by decide +kernel)
set_option maxRecDepth 20000 in
theorem gX10_refusesPair_X10_isPerson : GoodIn wsX10_refusesPair (wsV RX10 133 RX10 yX10_isPerson wsX10_isPerson) := goodIn_app (goodIn_of _ (by decide +kernel)) ggX10_refusesPair_X10_isPerson
theorem dX10_refusesPair_0 : decode cX10_refusesPair 0 = .ok (.iload_n 2, 1) := by decide +kernel
theorem dX10_refusesPair_1 : decode cX10_refusesPair 1 = .ok (.bipush 10, 2) := by decide +kernel
theorem dX10_refusesPair_3 : decode cX10_refusesPair 3 = .ok (.bipush 15, 2) := by decide +kernel
theorem dX10_refusesPair_5 : decode cX10_refusesPair 5 = .ok (.invokestatic 73, 3) := by decide +kernel
theorem dX10_refusesPair_8 : decode cX10_refusesPair 8 = .ok (.istore_n 3, 1) := by decide +kernel
theorem dX10_refusesPair_9 : decode cX10_refusesPair 9 = .ok (.iload_n 2, 1) := by decide +kernel
theorem dX10_refusesPair_10 : decode cX10_refusesPair 10 = .ok (.iconst 0, 1) := by decide +kernel
theorem dX10_refusesPair_11 : decode cX10_refusesPair 11 = .ok (.iconst 1, 1) := by decide +kernel
theorem dX10_refusesPair_12 : decode cX10_refusesPair 12 = .ok (.invokestatic 73, 3) := by decide +kernel
theorem dX10_refusesPair_15 : decode cX10_refusesPair 15 = .ok (.ifCond .ne 7, 3) := by decide +kernel
theorem dX10_refusesPair_18 : decode cX10_refusesPair 18 = .ok (.iload_n 3, 1) := by decide +kernel
theorem dX10_refusesPair_19 : decode cX10_refusesPair 19 = .ok (.ifCond .eq 17, 3) := by decide +kernel
theorem dX10_refusesPair_22 : decode cX10_refusesPair 22 = .ok (.iload_n 3, 1) := by decide +kernel
theorem dX10_refusesPair_23 : decode cX10_refusesPair 23 = .ok (.ifCond .eq 16, 3) := by decide +kernel
theorem dX10_refusesPair_26 : decode cX10_refusesPair 26 = .ok (.iload_n 1, 1) := by decide +kernel
theorem dX10_refusesPair_27 : decode cX10_refusesPair 27 = .ok (.iconst 0, 1) := by decide +kernel
theorem dX10_refusesPair_28 : decode cX10_refusesPair 28 = .ok (.bipush 7, 2) := by decide +kernel
theorem dX10_refusesPair_30 : decode cX10_refusesPair 30 = .ok (.invokestatic 73, 3) := by decide +kernel
theorem dX10_refusesPair_33 : decode cX10_refusesPair 33 = .ok (.ifCond .ne 6, 3) := by decide +kernel
theorem dX10_refusesPair_36 : decode cX10_refusesPair 36 = .ok (.bipush (-2), 2) := by decide +kernel
theorem dX10_refusesPair_38 : decode cX10_refusesPair 38 = .ok (.ireturn, 1) := by decide +kernel
theorem dX10_refusesPair_39 : decode cX10_refusesPair 39 = .ok (.iload_n 3, 1) := by decide +kernel
theorem dX10_refusesPair_40 : decode cX10_refusesPair 40 = .ok (.ifCond .ne 28, 3) := by decide +kernel
theorem dX10_refusesPair_43 : decode cX10_refusesPair 43 = .ok (.iload_n 2, 1) := by decide +kernel
theorem dX10_refusesPair_44 : decode cX10_refusesPair 44 = .ok (.ifCond .ne 11, 3) := by decide +kernel
theorem dX10_refusesPair_47 : decode cX10_refusesPair 47 = .ok (.aload_n 0, 1) := by decide +kernel
theorem dX10_refusesPair_48 : decode cX10_refusesPair 48 = .ok (.iload_n 1, 1) := by decide +kernel
theorem dX10_refusesPair_49 : decode cX10_refusesPair 49 = .ok (.invokevirtual 139, 3) := by decide +kernel
theorem dX10_refusesPair_52 : decode cX10_refusesPair 52 = .ok (.ifCond .ne 16, 3) := by decide +kernel
theorem dX10_refusesPair_55 : decode cX10_refusesPair 55 = .ok (.iload_n 2, 1) := by decide +kernel
theorem dX10_refusesPair_56 : decode cX10_refusesPair 56 = .ok (.iconst 1, 1) := by decide +kernel
theorem dX10_refusesPair_57 : decode cX10_refusesPair 57 = .ok (.if_icmp .ne 15, 3) := by decide +kernel
theorem dX10_refusesPair_60 : decode cX10_refusesPair 60 = .ok (.aload_n 0, 1) := by decide +kernel
theorem dX10_refusesPair_61 : decode cX10_refusesPair 61 = .ok (.iload_n 1, 1) := by decide +kernel
theorem dX10_refusesPair_62 : decode cX10_refusesPair 62 = .ok (.invokevirtual 133, 3) := by decide +kernel
theorem dX10_refusesPair_65 : decode cX10_refusesPair 65 = .ok (.ifCond .eq 7, 3) := by decide +kernel
theorem dX10_refusesPair_68 : decode cX10_refusesPair 68 = .ok (.iconst 1, 1) := by decide +kernel
theorem dX10_refusesPair_69 : decode cX10_refusesPair 69 = .ok (.goto 4, 3) := by decide +kernel
theorem dX10_refusesPair_72 : decode cX10_refusesPair 72 = .ok (.iconst 0, 1) := by decide +kernel
theorem dX10_refusesPair_73 : decode cX10_refusesPair 73 = .ok (.istore 4, 2) := by decide +kernel
theorem dX10_refusesPair_75 : decode cX10_refusesPair 75 = .ok (.iload 4, 2) := by decide +kernel
theorem dX10_refusesPair_77 : decode cX10_refusesPair 77 = .ok (.ifCond .eq 7, 3) := by decide +kernel
theorem dX10_refusesPair_80 : decode cX10_refusesPair 80 = .ok (.iconst 0, 1) := by decide +kernel
theorem dX10_refusesPair_81 : decode cX10_refusesPair 81 = .ok (.goto 4, 3) := by decide +kernel
theorem dX10_refusesPair_84 : decode cX10_refusesPair 84 = .ok (.iconst (-1), 1) := by decide +kernel
theorem dX10_refusesPair_85 : decode cX10_refusesPair 85 = .ok (.ireturn, 1) := by decide +kernel
set_option maxRecDepth 20000 in
theorem ggX10_year_X10_isSheet : GoodIn wsX10_year wsX10_isSheet := goodIn_r _ [7, 8, 9, 6, 10] (by decide +kernel) (by decide +kernel)
set_option maxRecDepth 20000 in
theorem gX10_year_X10_isSheet : GoodIn wsX10_year (va_wsS RX10 83 yX10_isSheet wsX10_isSheet) := goodIn_app (goodIn_of _ (by decide +kernel)) ggX10_year_X10_isSheet
set_option maxRecDepth 20000 in
theorem ggX10_year_X10_isSort : GoodIn wsX10_year wsX10_isSort := goodIn_r _ [13, 8, 9, 6, 10] (by decide +kernel) (by decide +kernel)
set_option maxRecDepth 20000 in
theorem gX10_year_X10_isSort : GoodIn wsX10_year (va_wsS RX10 87 yX10_isSort wsX10_isSort) := goodIn_app (goodIn_of _ (by decide +kernel)) ggX10_year_X10_isSort
set_option maxRecDepth 20000 in
theorem ggX10_year_X10_within : GoodIn wsX10_year wsX10_within := goodIn_r _ [10] (by decide +kernel) (by decide +kernel)
set_option maxRecDepth 20000 in
theorem gX10_year_X10_within : GoodIn wsX10_year (va_wsS RX10 73 yX10_within wsX10_within) := goodIn_app (goodIn_of _ (by decide +kernel)) ggX10_year_X10_within
set_option maxRecDepth 20000 in
theorem ggX10_year_X10_against : GoodIn wsX10_year wsX10_against := goodIn_r _ [17, 18, 19, 81, 82, 83, 84, 85, 86, 87, 88, 89, 90, 91, 92, 93, 94, 95, 96, 97, 98, 99, 100, 101, 102, 103, 104, 105, 106, 107, 108, 109, 110, 111, 112] (by decide +kernel) (by decide +kernel)
set_option maxRecDepth 20000 in
theorem gX10_year_X10_against : GoodIn wsX10_year (wsV RX10 90 RX10 yX10_against wsX10_against) := goodIn_app (goodIn_of _ (by decide +kernel)) ggX10_year_X10_against
set_option maxRecDepth 20000 in
theorem ggX10_year_X10_fails : GoodIn wsX10_year wsX10_fails := goodIn_r _ [23, 1, 81, 82, 83, 84, 85, 86, 87, 88, 89, 90, 91, 92, 93, 94, 95, 96, 97, 98, 99, 100, 101, 102, 103, 104, 105, 106, 107, 108, 109, 110, 111, 112] (by decide +kernel) (by decide +kernel)
set_option maxRecDepth 20000 in
theorem gX10_year_X10_fails : GoodIn wsX10_year (wsV RX10 94 RX10 yX10_fails wsX10_fails) := goodIn_app (goodIn_of _ (by decide +kernel)) ggX10_year_X10_fails
set_option maxRecDepth 20000 in
theorem ggX10_year_X10_refusesPair : GoodIn wsX10_year wsX10_refusesPair := goodIn_r _ [27, 8, 9, 6, 10, 28, 29, 30, 31, 2, 32, 33, 34, 35, 81, 82, 83, 84, 85, 86, 87, 88, 89, 90, 91, 92, 93, 94, 95, 96, 97, 98, 99, 100, 101, 102, 103, 104, 105, 106, 107, 108, 109, 110, 111, 112] (by decide +kernel) (by decide +kernel)
set_option maxRecDepth 20000 in
theorem gX10_year_X10_refusesPair : GoodIn wsX10_year (wsV RX10 161 RX10 yX10_refusesPair wsX10_refusesPair) := goodIn_app (goodIn_of _ (by decide +kernel)) ggX10_year_X10_refusesPair
set_option maxRecDepth 20000 in
theorem ggX10_year_X10_keep : GoodIn wsX10_year wsX10_keep := goodIn_r _ [39, 2, 40, 41, 42, 43, 81, 82, 83, 84, 85, 86, 87, 88, 89, 90, 91, 92, 93, 94, 95, 96, 97, 98, 99, 100, 101, 102, 103, 104, 105, 106, 107, 108, 109, 110, 111, 112] (by decide +kernel) (by decide +kernel)
set_option maxRecDepth 20000 in
theorem gX10_year_X10_keep : GoodIn wsX10_year (wsV RX10 164 RX10 yX10_keep wsX10_keep) := goodIn_app (goodIn_of _ (by decide +kernel)) ggX10_year_X10_keep
set_option maxRecDepth 20000 in
theorem ggX10_year_X10_goYear : GoodIn wsX10_year wsX10_goYear := goodIn_r _ [47, 48, 49, 50, 3, 51, 52, 53, 6, 54, 43, 41, 55, 56, 57, 58, 2, 32, 33, 34, 35, 59, 60, 61, 62, 63, 64, 65, 66, 67, 68, 69, 70, 71, 72, 81, 82, 83, 84, 85, 86, 87, 88, 89, 90, 91, 92, 93, 94, 95, 96, 97, 98, 99, 100, 101, 102, 103, 104, 105, 106, 107, 108, 109, 110, 111, 112] (by decide +kernel) (by decide +kernel)
set_option maxRecDepth 20000 in
theorem gX10_year_X10_goYear : GoodIn wsX10_year (wsV RX10 167 RX10 yX10_goYear wsX10_goYear) := goodIn_app (goodIn_of _ (by decide +kernel)) ggX10_year_X10_goYear
set_option maxRecDepth 20000 in
theorem ggX10_year_X10_tellYear : GoodIn wsX10_year wsX10_tellYear := goodIn_r _ [76, 41, 48, 49, 50, 32, 33, 34, 6, 35, 2, 55, 56, 57, 58, 81, 82, 83, 84, 85, 86, 87, 88, 89, 90, 91, 92, 93, 94, 95, 96, 97, 98, 99, 100, 101, 102, 103, 104, 105, 106, 107, 108, 109, 110, 111, 112] (by decide +kernel) (by decide +kernel)
set_option maxRecDepth 20000 in
theorem gX10_year_X10_tellYear : GoodIn wsX10_year (wsV RX10 170 RX10 yX10_tellYear wsX10_tellYear) := goodIn_app (goodIn_of _ (by decide +kernel)) ggX10_year_X10_tellYear
set_option maxRecDepth 20000 in
theorem ggX10_year_X10_putBack : GoodIn wsX10_year wsX10_putBack := goodIn_r _ [80, 2, 41, 40, 43, 42, 81, 82, 83, 84, 85, 86, 87, 88, 89, 90, 91, 92, 93, 94, 95, 96, 97, 98, 99, 100, 101, 102, 103, 104, 105, 106, 107, 108, 109, 110, 111, 112] (by decide +kernel) (by decide +kernel)
set_option maxRecDepth 20000 in
theorem gX10_year_X10_putBack : GoodIn wsX10_year (wsV RX10 173 RX10 yX10_putBack wsX10_putBack) := goodIn_app (goodIn_of _ (by decide +kernel)) ggX10_year_X10_putBack
theorem dX10_year_0 : decode cX10_year 0 = .ok (.aload_n 0, 1) := by decide +kernel
theorem dX10_year_1 : decode cX10_year 1 = .ok (.iconst 0, 1) := by decide +kernel
theorem dX10_year_2 : decode cX10_year 2 = .ok (.putfield 67, 3) := by decide +kernel
theorem dX10_year_5 : decode cX10_year 5 = .ok (.iload_n 1, 1) := by decide +kernel
theorem dX10_year_6 : decode cX10_year 6 = .ok (.invokestatic 83, 3) := by decide +kernel
theorem dX10_year_9 : decode cX10_year 9 = .ok (.ifCond .ne 5, 3) := by decide +kernel
theorem dX10_year_12 : decode cX10_year 12 = .ok (.iconst (-1), 1) := by decide +kernel
theorem dX10_year_13 : decode cX10_year 13 = .ok (.ireturn, 1) := by decide +kernel
theorem dX10_year_14 : decode cX10_year 14 = .ok (.iload_n 2, 1) := by decide +kernel
theorem dX10_year_15 : decode cX10_year 15 = .ok (.invokestatic 87, 3) := by decide +kernel
theorem dX10_year_18 : decode cX10_year 18 = .ok (.ifCond .eq 36, 3) := by decide +kernel
theorem dX10_year_21 : decode cX10_year 21 = .ok (.iload 4, 2) := by decide +kernel
theorem dX10_year_23 : decode cX10_year 23 = .ok (.iconst 0, 1) := by decide +kernel
theorem dX10_year_24 : decode cX10_year 24 = .ok (.bipush 20, 2) := by decide +kernel
theorem dX10_year_26 : decode cX10_year 26 = .ok (.invokestatic 73, 3) := by decide +kernel
theorem dX10_year_29 : decode cX10_year 29 = .ok (.ifCond .eq 25, 3) := by decide +kernel
theorem dX10_year_32 : decode cX10_year 32 = .ok (.iload 5, 2) := by decide +kernel
theorem dX10_year_34 : decode cX10_year 34 = .ok (.iconst 0, 1) := by decide +kernel
theorem dX10_year_35 : decode cX10_year 35 = .ok (.iconst 4, 1) := by decide +kernel
theorem dX10_year_36 : decode cX10_year 36 = .ok (.invokestatic 73, 3) := by decide +kernel
theorem dX10_year_39 : decode cX10_year 39 = .ok (.ifCond .ne 18, 3) := by decide +kernel
theorem dX10_year_42 : decode cX10_year 42 = .ok (.iload 5, 2) := by decide +kernel
theorem dX10_year_44 : decode cX10_year 44 = .ok (.bipush 10, 2) := by decide +kernel
theorem dX10_year_46 : decode cX10_year 46 = .ok (.bipush 15, 2) := by decide +kernel
theorem dX10_year_48 : decode cX10_year 48 = .ok (.invokestatic 73, 3) := by decide +kernel
theorem dX10_year_51 : decode cX10_year 51 = .ok (.ifCond .ne 6, 3) := by decide +kernel
theorem dX10_year_54 : decode cX10_year 54 = .ok (.bipush (-2), 2) := by decide +kernel
theorem dX10_year_56 : decode cX10_year 56 = .ok (.ireturn, 1) := by decide +kernel
theorem dX10_year_57 : decode cX10_year 57 = .ok (.aload_n 0, 1) := by decide +kernel
theorem dX10_year_58 : decode cX10_year 58 = .ok (.iload_n 1, 1) := by decide +kernel
theorem dX10_year_59 : decode cX10_year 59 = .ok (.iload_n 2, 1) := by decide +kernel
theorem dX10_year_60 : decode cX10_year 60 = .ok (.iload_n 3, 1) := by decide +kernel
theorem dX10_year_61 : decode cX10_year 61 = .ok (.iconst 2, 1) := by decide +kernel
theorem dX10_year_62 : decode cX10_year 62 = .ok (.iload 4, 2) := by decide +kernel
theorem dX10_year_64 : decode cX10_year 64 = .ok (.imul, 1) := by decide +kernel
theorem dX10_year_65 : decode cX10_year 65 = .ok (.invokevirtual 90, 3) := by decide +kernel
theorem dX10_year_68 : decode cX10_year 68 = .ok (.istore 6, 2) := by decide +kernel
theorem dX10_year_70 : decode cX10_year 70 = .ok (.iload 6, 2) := by decide +kernel
theorem dX10_year_72 : decode cX10_year 72 = .ok (.ifCond .eq 10, 3) := by decide +kernel
theorem dX10_year_75 : decode cX10_year 75 = .ok (.aload_n 0, 1) := by decide +kernel
theorem dX10_year_76 : decode cX10_year 76 = .ok (.iload 6, 2) := by decide +kernel
theorem dX10_year_78 : decode cX10_year 78 = .ok (.invokevirtual 94, 3) := by decide +kernel
theorem dX10_year_81 : decode cX10_year 81 = .ok (.ireturn, 1) := by decide +kernel
theorem dX10_year_82 : decode cX10_year 82 = .ok (.aload_n 0, 1) := by decide +kernel
theorem dX10_year_83 : decode cX10_year 83 = .ok (.getfield 77, 3) := by decide +kernel
theorem dX10_year_86 : decode cX10_year 86 = .ok (.ifCond .ne 6, 3) := by decide +kernel
theorem dX10_year_89 : decode cX10_year 89 = .ok (.bipush (-3), 2) := by decide +kernel
theorem dX10_year_91 : decode cX10_year 91 = .ok (.ireturn, 1) := by decide +kernel
theorem dX10_year_92 : decode cX10_year 92 = .ok (.bipush 60, 2) := by decide +kernel
theorem dX10_year_94 : decode cX10_year 94 = .ok (.iload_n 1, 1) := by decide +kernel
theorem dX10_year_95 : decode cX10_year 95 = .ok (.imul, 1) := by decide +kernel
theorem dX10_year_96 : decode cX10_year 96 = .ok (.iload_n 3, 1) := by decide +kernel
theorem dX10_year_97 : decode cX10_year 97 = .ok (.iadd, 1) := by decide +kernel
theorem dX10_year_98 : decode cX10_year 98 = .ok (.istore 7, 2) := by decide +kernel
theorem dX10_year_100 : decode cX10_year 100 = .ok (.iconst 0, 1) := by decide +kernel
theorem dX10_year_101 : decode cX10_year 101 = .ok (.istore 8, 2) := by decide +kernel
theorem dX10_year_103 : decode cX10_year 103 = .ok (.iload 8, 2) := by decide +kernel
theorem dX10_year_105 : decode cX10_year 105 = .ok (.iload 4, 2) := by decide +kernel
theorem dX10_year_107 : decode cX10_year 107 = .ok (.if_icmp .ge 49, 3) := by decide +kernel
theorem dX10_year_110 : decode cX10_year 110 = .ok (.aload_n 0, 1) := by decide +kernel
theorem dX10_year_111 : decode cX10_year 111 = .ok (.aload_n 0, 1) := by decide +kernel
theorem dX10_year_112 : decode cX10_year 112 = .ok (.getfield 16, 3) := by decide +kernel
theorem dX10_year_115 : decode cX10_year 115 = .ok (.iload 7, 2) := by decide +kernel
theorem dX10_year_117 : decode cX10_year 117 = .ok (.iconst 2, 1) := by decide +kernel
theorem dX10_year_118 : decode cX10_year 118 = .ok (.iload 8, 2) := by decide +kernel
theorem dX10_year_120 : decode cX10_year 120 = .ok (.imul, 1) := by decide +kernel
theorem dX10_year_121 : decode cX10_year 121 = .ok (.iadd, 1) := by decide +kernel
theorem dX10_year_122 : decode cX10_year 122 = .ok (.iaload, 1) := by decide +kernel
theorem dX10_year_123 : decode cX10_year 123 = .ok (.aload_n 0, 1) := by decide +kernel
theorem dX10_year_124 : decode cX10_year 124 = .ok (.getfield 16, 3) := by decide +kernel
theorem dX10_year_127 : decode cX10_year 127 = .ok (.iload 7, 2) := by decide +kernel
theorem dX10_year_129 : decode cX10_year 129 = .ok (.iconst 2, 1) := by decide +kernel
theorem dX10_year_130 : decode cX10_year 130 = .ok (.iload 8, 2) := by decide +kernel
theorem dX10_year_132 : decode cX10_year 132 = .ok (.imul, 1) := by decide +kernel
theorem dX10_year_133 : decode cX10_year 133 = .ok (.iadd, 1) := by decide +kernel
theorem dX10_year_134 : decode cX10_year 134 = .ok (.iconst 1, 1) := by decide +kernel
theorem dX10_year_135 : decode cX10_year 135 = .ok (.iadd, 1) := by decide +kernel
theorem dX10_year_136 : decode cX10_year 136 = .ok (.iaload, 1) := by decide +kernel
theorem dX10_year_137 : decode cX10_year 137 = .ok (.invokevirtual 161, 3) := by decide +kernel
theorem dX10_year_140 : decode cX10_year 140 = .ok (.istore 9, 2) := by decide +kernel
theorem dX10_year_142 : decode cX10_year 142 = .ok (.iload 9, 2) := by decide +kernel
theorem dX10_year_144 : decode cX10_year 144 = .ok (.ifCond .eq 6, 3) := by decide +kernel
theorem dX10_year_147 : decode cX10_year 147 = .ok (.iload 9, 2) := by decide +kernel
theorem dX10_year_149 : decode cX10_year 149 = .ok (.ireturn, 1) := by decide +kernel
theorem dX10_year_150 : decode cX10_year 150 = .ok (.iinc 8 1, 3) := by decide +kernel
theorem dX10_year_153 : decode cX10_year 153 = .ok (.goto (-50), 3) := by decide +kernel
theorem dX10_year_156 : decode cX10_year 156 = .ok (.aload_n 0, 1) := by decide +kernel
theorem dX10_year_157 : decode cX10_year 157 = .ok (.invokevirtual 164, 3) := by decide +kernel
theorem dX10_year_160 : decode cX10_year 160 = .ok (.aload_n 0, 1) := by decide +kernel
theorem dX10_year_161 : decode cX10_year 161 = .ok (.iload 7, 2) := by decide +kernel
theorem dX10_year_163 : decode cX10_year 163 = .ok (.iload 4, 2) := by decide +kernel
theorem dX10_year_165 : decode cX10_year 165 = .ok (.invokevirtual 167, 3) := by decide +kernel
theorem dX10_year_168 : decode cX10_year 168 = .ok (.istore 8, 2) := by decide +kernel
theorem dX10_year_170 : decode cX10_year 170 = .ok (.aload_n 0, 1) := by decide +kernel
theorem dX10_year_171 : decode cX10_year 171 = .ok (.iload 5, 2) := by decide +kernel
theorem dX10_year_173 : decode cX10_year 173 = .ok (.invokevirtual 170, 3) := by decide +kernel
theorem dX10_year_176 : decode cX10_year 176 = .ok (.istore 9, 2) := by decide +kernel
theorem dX10_year_178 : decode cX10_year 178 = .ok (.aload_n 0, 1) := by decide +kernel
theorem dX10_year_179 : decode cX10_year 179 = .ok (.invokevirtual 173, 3) := by decide +kernel
theorem dX10_year_182 : decode cX10_year 182 = .ok (.iload 5, 2) := by decide +kernel
theorem dX10_year_184 : decode cX10_year 184 = .ok (.iconst 1, 1) := by decide +kernel
theorem dX10_year_185 : decode cX10_year 185 = .ok (.if_icmp .ne 8, 3) := by decide +kernel
theorem dX10_year_188 : decode cX10_year 188 = .ok (.iload 8, 2) := by decide +kernel
theorem dX10_year_190 : decode cX10_year 190 = .ok (.goto 20, 3) := by decide +kernel
theorem dX10_year_193 : decode cX10_year 193 = .ok (.iload 8, 2) := by decide +kernel
theorem dX10_year_195 : decode cX10_year 195 = .ok (.bipush (-9), 2) := by decide +kernel
theorem dX10_year_197 : decode cX10_year 197 = .ok (.if_icmp .ne 8, 3) := by decide +kernel
theorem dX10_year_200 : decode cX10_year 200 = .ok (.iload 9, 2) := by decide +kernel
theorem dX10_year_202 : decode cX10_year 202 = .ok (.goto 8, 3) := by decide +kernel
theorem dX10_year_205 : decode cX10_year 205 = .ok (.bipush (-100), 2) := by decide +kernel
theorem dX10_year_207 : decode cX10_year 207 = .ok (.iload 8, 2) := by decide +kernel
theorem dX10_year_209 : decode cX10_year 209 = .ok (.isub, 1) := by decide +kernel
theorem dX10_year_210 : decode cX10_year 210 = .ok (.ireturn, 1) := by decide +kernel
set_option maxRecDepth 20000 in
theorem ggX10_tellYear_X10_isPerson : GoodIn wsX10_tellYear wsX10_isPerson := goodIn_r _ [9, 10, 15, 16, 17, 18, 19, 20, 21, 22, 23, 24, 25, 26, 27, 28, 29, 30, 31, 32, 33, 34, 35, 36, 37, 38, 39, 40, 41, 42, 43, 44, 45, 46] (by decide +kernel) (by decide +kernel)
set_option maxRecDepth 20000 in
theorem gX10_tellYear_X10_isPerson : GoodIn wsX10_tellYear (wsV RX10 133 RX10 yX10_isPerson wsX10_isPerson) := goodIn_app (goodIn_of _ (by decide +kernel)) ggX10_tellYear_X10_isPerson
set_option maxRecDepth 20000 in
theorem ggX10_tellYear_X10_firstOf : GoodIn wsX10_tellYear wsX10_firstOf := goodIn_r _ [14, 10, 1, 15, 16, 17, 18, 19, 20, 21, 22, 23, 24, 25, 26, 27, 28, 29, 30, 31, 32, 33, 34, 35, 36, 37, 38, 39, 40, 41, 42, 43, 44, 45, 46] (by decide +kernel) (by decide +kernel)
set_option maxRecDepth 20000 in
theorem gX10_tellYear_X10_firstOf : GoodIn wsX10_tellYear (wsV RX10 145 RX10 yX10_firstOf wsX10_firstOf) := goodIn_app (goodIn_of _ (by decide +kernel)) ggX10_tellYear_X10_firstOf
theorem dX10_tellYear_0 : decode cX10_tellYear 0 = .ok (.iload_n 1, 1) := by decide +kernel
theorem dX10_tellYear_1 : decode cX10_tellYear 1 = .ok (.bipush 10, 2) := by decide +kernel
theorem dX10_tellYear_3 : decode cX10_tellYear 3 = .ok (.if_icmp .lt 29, 3) := by decide +kernel
theorem dX10_tellYear_6 : decode cX10_tellYear 6 = .ok (.aload_n 0, 1) := by decide +kernel
theorem dX10_tellYear_7 : decode cX10_tellYear 7 = .ok (.iload_n 1, 1) := by decide +kernel
theorem dX10_tellYear_8 : decode cX10_tellYear 8 = .ok (.bipush 10, 2) := by decide +kernel
theorem dX10_tellYear_10 : decode cX10_tellYear 10 = .ok (.isub, 1) := by decide +kernel
theorem dX10_tellYear_11 : decode cX10_tellYear 11 = .ok (.invokevirtual 133, 3) := by decide +kernel
theorem dX10_tellYear_14 : decode cX10_tellYear 14 = .ok (.ifCond .eq 15, 3) := by decide +kernel
theorem dX10_tellYear_17 : decode cX10_tellYear 17 = .ok (.aload_n 0, 1) := by decide +kernel
theorem dX10_tellYear_18 : decode cX10_tellYear 18 = .ok (.getfield 25, 3) := by decide +kernel
theorem dX10_tellYear_21 : decode cX10_tellYear 21 = .ok (.iload_n 1, 1) := by decide +kernel
theorem dX10_tellYear_22 : decode cX10_tellYear 22 = .ok (.bipush 10, 2) := by decide +kernel
theorem dX10_tellYear_24 : decode cX10_tellYear 24 = .ok (.isub, 1) := by decide +kernel
theorem dX10_tellYear_25 : decode cX10_tellYear 25 = .ok (.iaload, 1) := by decide +kernel
theorem dX10_tellYear_26 : decode cX10_tellYear 26 = .ok (.goto 5, 3) := by decide +kernel
theorem dX10_tellYear_29 : decode cX10_tellYear 29 = .ok (.bipush (-9), 2) := by decide +kernel
theorem dX10_tellYear_31 : decode cX10_tellYear 31 = .ok (.ireturn, 1) := by decide +kernel
theorem dX10_tellYear_32 : decode cX10_tellYear 32 = .ok (.iload_n 1, 1) := by decide +kernel
theorem dX10_tellYear_33 : decode cX10_tellYear 33 = .ok (.tableswitch 46 0 3 #[31, 46, 36, 41], 31) := by decide +kernel
theorem dX10_tellYear_64 : decode cX10_tellYear 64 = .ok (.aload_n 0, 1) := by decide +kernel
theorem dX10_tellYear_65 : decode cX10_tellYear 65 = .ok (.getfield 149, 3) := by decide +kernel
theorem dX10_tellYear_68 : decode cX10_tellYear 68 = .ok (.ireturn, 1) := by decide +kernel
theorem dX10_tellYear_69 : decode cX10_tellYear 69 = .ok (.aload_n 0, 1) := by decide +kernel
theorem dX10_tellYear_70 : decode cX10_tellYear 70 = .ok (.getfield 152, 3) := by decide +kernel
theorem dX10_tellYear_73 : decode cX10_tellYear 73 = .ok (.ireturn, 1) := by decide +kernel
theorem dX10_tellYear_74 : decode cX10_tellYear 74 = .ok (.aload_n 0, 1) := by decide +kernel
theorem dX10_tellYear_75 : decode cX10_tellYear 75 = .ok (.getfield 155, 3) := by decide +kernel
theorem dX10_tellYear_78 : decode cX10_tellYear 78 = .ok (.ireturn, 1) := by decide +kernel
theorem dX10_tellYear_79 : decode cX10_tellYear 79 = .ok (.aload_n 0, 1) := by decide +kernel
theorem dX10_tellYear_80 : decode cX10_tellYear 80 = .ok (.invokevirtual 145, 3) := by decide +kernel
theorem dX10_tellYear_83 : decode cX10_tellYear 83 = .ok (.ireturn, 1) := by decide +kernel
set_option maxRecDepth 20000 in
theorem ggX10_register_X10_within : GoodIn wsX10_register wsX10_within := goodIn_r _ [5] (by decide +kernel) (by decide +kernel)
set_option maxRecDepth 20000 in
theorem gX10_register_X10_within : GoodIn wsX10_register (va_wsS RX10 73 yX10_within wsX10_within) := goodIn_app (goodIn_of _ (by decide +kernel)) ggX10_register_X10_within
set_option maxRecDepth 20000 in
theorem ggX10_register_X10_placeOf : GoodIn wsX10_register wsX10_placeOf := goodIn_r _ [9, 1, 10, 11, 12, 13, 14, 15, 16, 17, 18, 19, 20, 21, 22, 23, 24, 25, 26, 27, 28, 29, 30, 31, 32, 33, 34, 35, 36, 37, 38, 39, 40, 41, 42] (by decide +kernel) (by decide +kernel)
set_option maxRecDepth 20000 in
theorem gX10_register_X10_placeOf : GoodIn wsX10_register (wsV RX10 136 RX10 yX10_placeOf wsX10_placeOf) := goodIn_app (goodIn_of _ (by decide +kernel)) ggX10_register_X10_placeOf
theorem dX10_register_0 : decode cX10_register 0 = .ok (.iload_n 1, 1) := by decide +kernel
theorem dX10_register_1 : decode cX10_register 1 = .ok (.iconst 0, 1) := by decide +kernel
theorem dX10_register_2 : decode cX10_register 2 = .ok (.iconst 5, 1) := by decide +kernel
theorem dX10_register_3 : decode cX10_register 3 = .ok (.invokestatic 73, 3) := by decide +kernel
theorem dX10_register_6 : decode cX10_register 6 = .ok (.ifCond .ne 6, 3) := by decide +kernel
theorem dX10_register_9 : decode cX10_register 9 = .ok (.bipush (-2), 2) := by decide +kernel
theorem dX10_register_11 : decode cX10_register 11 = .ok (.ireturn, 1) := by decide +kernel
theorem dX10_register_12 : decode cX10_register 12 = .ok (.aload_n 0, 1) := by decide +kernel
theorem dX10_register_13 : decode cX10_register 13 = .ok (.getfield 77, 3) := by decide +kernel
theorem dX10_register_16 : decode cX10_register 16 = .ok (.ifCond .ne 6, 3) := by decide +kernel
theorem dX10_register_19 : decode cX10_register 19 = .ok (.bipush (-3), 2) := by decide +kernel
theorem dX10_register_21 : decode cX10_register 21 = .ok (.ireturn, 1) := by decide +kernel
theorem dX10_register_22 : decode cX10_register 22 = .ok (.iconst 0, 1) := by decide +kernel
theorem dX10_register_23 : decode cX10_register 23 = .ok (.istore_n 2, 1) := by decide +kernel
theorem dX10_register_24 : decode cX10_register 24 = .ok (.iload_n 2, 1) := by decide +kernel
theorem dX10_register_25 : decode cX10_register 25 = .ok (.aload_n 0, 1) := by decide +kernel
theorem dX10_register_26 : decode cX10_register 26 = .ok (.getfield 77, 3) := by decide +kernel
theorem dX10_register_29 : decode cX10_register 29 = .ok (.if_icmp .ge 20, 3) := by decide +kernel
theorem dX10_register_32 : decode cX10_register 32 = .ok (.aload_n 0, 1) := by decide +kernel
theorem dX10_register_33 : decode cX10_register 33 = .ok (.iload_n 2, 1) := by decide +kernel
theorem dX10_register_34 : decode cX10_register 34 = .ok (.invokevirtual 136, 3) := by decide +kernel
theorem dX10_register_37 : decode cX10_register 37 = .ok (.iload_n 1, 1) := by decide +kernel
theorem dX10_register_38 : decode cX10_register 38 = .ok (.if_icmp .ne 5, 3) := by decide +kernel
theorem dX10_register_41 : decode cX10_register 41 = .ok (.iload_n 2, 1) := by decide +kernel
theorem dX10_register_42 : decode cX10_register 42 = .ok (.ireturn, 1) := by decide +kernel
theorem dX10_register_43 : decode cX10_register 43 = .ok (.iinc 2 1, 3) := by decide +kernel
theorem dX10_register_46 : decode cX10_register 46 = .ok (.goto (-22), 3) := by decide +kernel
theorem dX10_register_49 : decode cX10_register 49 = .ok (.bipush (-9), 2) := by decide +kernel
theorem dX10_register_51 : decode cX10_register 51 = .ok (.ireturn, 1) := by decide +kernel
set_option maxRecDepth 20000 in
theorem ggX10_turn_X10_isPerson : GoodIn wsX10_turn wsX10_isPerson := goodIn_r _ [6, 7, 23, 24, 25, 26, 27, 28, 29, 30, 31, 32, 33, 34, 35, 36, 37, 38, 39, 40, 41, 42, 43, 44, 45, 46, 47, 48, 49, 50, 51, 52, 53, 54] (by decide +kernel) (by decide +kernel)
set_option maxRecDepth 20000 in
theorem gX10_turn_X10_isPerson : GoodIn wsX10_turn (wsV RX10 133 RX10 yX10_isPerson wsX10_isPerson) := goodIn_app (goodIn_of _ (by decide +kernel)) ggX10_turn_X10_isPerson
set_option maxRecDepth 20000 in
theorem ggX10_turn_X10_keep : GoodIn wsX10_turn wsX10_keep := goodIn_r _ [11, 7, 12, 1, 13, 14, 23, 24, 25, 26, 27, 28, 29, 30, 31, 32, 33, 34, 35, 36, 37, 38, 39, 40, 41, 42, 43, 44, 45, 46, 47, 48, 49, 50, 51, 52, 53, 54] (by decide +kernel) (by decide +kernel)
set_option maxRecDepth 20000 in
theorem gX10_turn_X10_keep : GoodIn wsX10_turn (wsV RX10 164 RX10 yX10_keep wsX10_keep) := goodIn_app (goodIn_of _ (by decide +kernel)) ggX10_turn_X10_keep
set_option maxRecDepth 20000 in
theorem ggX10_turn_X10_firstOf : GoodIn wsX10_turn wsX10_firstOf := goodIn_r _ [18, 7, 1, 23, 24, 25, 26, 27, 28, 29, 30, 31, 32, 33, 34, 35, 36, 37, 38, 39, 40, 41, 42, 43, 44, 45, 46, 47, 48, 49, 50, 51, 52, 53, 54] (by decide +kernel) (by decide +kernel)
set_option maxRecDepth 20000 in
theorem gX10_turn_X10_firstOf : GoodIn wsX10_turn (wsV RX10 145 RX10 yX10_firstOf wsX10_firstOf) := goodIn_app (goodIn_of _ (by decide +kernel)) ggX10_turn_X10_firstOf
set_option maxRecDepth 20000 in
theorem ggX10_turn_X10_putBack : GoodIn wsX10_turn wsX10_putBack := goodIn_r _ [22, 7, 1, 12, 14, 13, 23, 24, 25, 26, 27, 28, 29, 30, 31, 32, 33, 34, 35, 36, 37, 38, 39, 40, 41, 42, 43, 44, 45, 46, 47, 48, 49, 50, 51, 52, 53, 54] (by decide +kernel) (by decide +kernel)
set_option maxRecDepth 20000 in
theorem gX10_turn_X10_putBack : GoodIn wsX10_turn (wsV RX10 173 RX10 yX10_putBack wsX10_putBack) := goodIn_app (goodIn_of _ (by decide +kernel)) ggX10_turn_X10_putBack
theorem dX10_turn_0 : decode cX10_turn 0 = .ok (.aload_n 0, 1) := by decide +kernel
theorem dX10_turn_1 : decode cX10_turn 1 = .ok (.iload_n 1, 1) := by decide +kernel
theorem dX10_turn_2 : decode cX10_turn 2 = .ok (.invokevirtual 133, 3) := by decide +kernel
theorem dX10_turn_5 : decode cX10_turn 5 = .ok (.ifCond .ne 5, 3) := by decide +kernel
theorem dX10_turn_8 : decode cX10_turn 8 = .ok (.iconst (-1), 1) := by decide +kernel
theorem dX10_turn_9 : decode cX10_turn 9 = .ok (.ireturn, 1) := by decide +kernel
theorem dX10_turn_10 : decode cX10_turn 10 = .ok (.aload_n 0, 1) := by decide +kernel
theorem dX10_turn_11 : decode cX10_turn 11 = .ok (.invokevirtual 164, 3) := by decide +kernel
theorem dX10_turn_14 : decode cX10_turn 14 = .ok (.iconst 0, 1) := by decide +kernel
theorem dX10_turn_15 : decode cX10_turn 15 = .ok (.istore_n 2, 1) := by decide +kernel
theorem dX10_turn_16 : decode cX10_turn 16 = .ok (.aload_n 0, 1) := by decide +kernel
theorem dX10_turn_17 : decode cX10_turn 17 = .ok (.invokevirtual 145, 3) := by decide +kernel
theorem dX10_turn_20 : decode cX10_turn 20 = .ok (.istore_n 3, 1) := by decide +kernel
theorem dX10_turn_21 : decode cX10_turn 21 = .ok (.iload_n 3, 1) := by decide +kernel
theorem dX10_turn_22 : decode cX10_turn 22 = .ok (.iload_n 1, 1) := by decide +kernel
theorem dX10_turn_23 : decode cX10_turn 23 = .ok (.if_icmp .eq 24, 3) := by decide +kernel
theorem dX10_turn_26 : decode cX10_turn 26 = .ok (.aload_n 0, 1) := by decide +kernel
theorem dX10_turn_27 : decode cX10_turn 27 = .ok (.getfield 25, 3) := by decide +kernel
theorem dX10_turn_30 : decode cX10_turn 30 = .ok (.iload_n 3, 1) := by decide +kernel
theorem dX10_turn_31 : decode cX10_turn 31 = .ok (.dup2, 1) := by decide +kernel
theorem dX10_turn_32 : decode cX10_turn 32 = .ok (.iaload, 1) := by decide +kernel
theorem dX10_turn_33 : decode cX10_turn 33 = .ok (.iconst 1, 1) := by decide +kernel
theorem dX10_turn_34 : decode cX10_turn 34 = .ok (.iadd, 1) := by decide +kernel
theorem dX10_turn_35 : decode cX10_turn 35 = .ok (.iastore, 1) := by decide +kernel
theorem dX10_turn_36 : decode cX10_turn 36 = .ok (.iinc 2 1, 3) := by decide +kernel
theorem dX10_turn_39 : decode cX10_turn 39 = .ok (.aload_n 0, 1) := by decide +kernel
theorem dX10_turn_40 : decode cX10_turn 40 = .ok (.invokevirtual 145, 3) := by decide +kernel
theorem dX10_turn_43 : decode cX10_turn 43 = .ok (.istore_n 3, 1) := by decide +kernel
theorem dX10_turn_44 : decode cX10_turn 44 = .ok (.goto (-23), 3) := by decide +kernel
theorem dX10_turn_47 : decode cX10_turn 47 = .ok (.aload_n 0, 1) := by decide +kernel
theorem dX10_turn_48 : decode cX10_turn 48 = .ok (.invokevirtual 173, 3) := by decide +kernel
theorem dX10_turn_51 : decode cX10_turn 51 = .ok (.iload_n 2, 1) := by decide +kernel
theorem dX10_turn_52 : decode cX10_turn 52 = .ok (.ireturn, 1) := by decide +kernel
set_option maxRecDepth 20000 in
theorem ggX10_steer_X10_isMatter : GoodIn wsX10_steer wsX10_isMatter := goodIn_r _ [8, 1, 26, 27, 28, 29, 30, 31, 32, 33, 34, 35, 36, 37, 38, 39, 40, 41, 42, 43, 44, 45, 46, 47, 48, 49, 50, 51, 52, 53, 54, 55, 56, 57] (by decide +kernel) (by decide +kernel)
set_option maxRecDepth 20000 in
theorem gX10_steer_X10_isMatter : GoodIn wsX10_steer (wsV RX10 139 RX10 yX10_isMatter wsX10_isMatter) := goodIn_app (goodIn_of _ (by decide +kernel)) ggX10_steer_X10_isMatter
set_option maxRecDepth 20000 in
theorem ggX10_steer_X10_isOf : GoodIn wsX10_steer wsX10_isOf := goodIn_r _ [11] (by decide +kernel) (by decide +kernel)
set_option maxRecDepth 20000 in
theorem gX10_steer_X10_isOf : GoodIn wsX10_steer (va_wsS RX10 127 yX10_isOf wsX10_isOf) := goodIn_app (goodIn_of _ (by decide +kernel)) ggX10_steer_X10_isOf
set_option maxRecDepth 20000 in
theorem ggX10_steer_X10_keep : GoodIn wsX10_steer wsX10_keep := goodIn_r _ [15, 1, 16, 3, 17, 2, 26, 27, 28, 29, 30, 31, 32, 33, 34, 35, 36, 37, 38, 39, 40, 41, 42, 43, 44, 45, 46, 47, 48, 49, 50, 51, 52, 53, 54, 55, 56, 57] (by decide +kernel) (by decide +kernel)
set_option maxRecDepth 20000 in
theorem gX10_steer_X10_keep : GoodIn wsX10_steer (wsV RX10 164 RX10 yX10_keep wsX10_keep) := goodIn_app (goodIn_of _ (by decide +kernel)) ggX10_steer_X10_keep
set_option maxRecDepth 20000 in
theorem ggX10_steer_X10_firstOf : GoodIn wsX10_steer wsX10_firstOf := goodIn_r _ [21, 1, 3, 26, 27, 28, 29, 30, 31, 32, 33, 34, 35, 36, 37, 38, 39, 40, 41, 42, 43, 44, 45, 46, 47, 48, 49, 50, 51, 52, 53, 54, 55, 56, 57] (by decide +kernel) (by decide +kernel)
set_option maxRecDepth 20000 in
theorem gX10_steer_X10_firstOf : GoodIn wsX10_steer (wsV RX10 145 RX10 yX10_firstOf wsX10_firstOf) := goodIn_app (goodIn_of _ (by decide +kernel)) ggX10_steer_X10_firstOf
set_option maxRecDepth 20000 in
theorem ggX10_steer_X10_putBack : GoodIn wsX10_steer wsX10_putBack := goodIn_r _ [25, 1, 3, 16, 2, 17, 26, 27, 28, 29, 30, 31, 32, 33, 34, 35, 36, 37, 38, 39, 40, 41, 42, 43, 44, 45, 46, 47, 48, 49, 50, 51, 52, 53, 54, 55, 56, 57] (by decide +kernel) (by decide +kernel)
set_option maxRecDepth 20000 in
theorem gX10_steer_X10_putBack : GoodIn wsX10_steer (wsV RX10 173 RX10 yX10_putBack wsX10_putBack) := goodIn_app (goodIn_of _ (by decide +kernel)) ggX10_steer_X10_putBack
theorem dX10_steer_0 : decode cX10_steer 0 = .ok (.aload_n 0, 1) := by decide +kernel
theorem dX10_steer_1 : decode cX10_steer 1 = .ok (.iload_n 1, 1) := by decide +kernel
theorem dX10_steer_2 : decode cX10_steer 2 = .ok (.invokevirtual 139, 3) := by decide +kernel
theorem dX10_steer_5 : decode cX10_steer 5 = .ok (.ifCond .ne 5, 3) := by decide +kernel
theorem dX10_steer_8 : decode cX10_steer 8 = .ok (.iconst (-1), 1) := by decide +kernel
theorem dX10_steer_9 : decode cX10_steer 9 = .ok (.ireturn, 1) := by decide +kernel
theorem dX10_steer_10 : decode cX10_steer 10 = .ok (.iconst 0, 1) := by decide +kernel
theorem dX10_steer_11 : decode cX10_steer 11 = .ok (.istore_n 2, 1) := by decide +kernel
theorem dX10_steer_12 : decode cX10_steer 12 = .ok (.iconst 0, 1) := by decide +kernel
theorem dX10_steer_13 : decode cX10_steer 13 = .ok (.istore_n 3, 1) := by decide +kernel
theorem dX10_steer_14 : decode cX10_steer 14 = .ok (.iload_n 3, 1) := by decide +kernel
theorem dX10_steer_15 : decode cX10_steer 15 = .ok (.aload_n 0, 1) := by decide +kernel
theorem dX10_steer_16 : decode cX10_steer 16 = .ok (.getfield 77, 3) := by decide +kernel
theorem dX10_steer_19 : decode cX10_steer 19 = .ok (.if_icmp .ge 32, 3) := by decide +kernel
theorem dX10_steer_22 : decode cX10_steer 22 = .ok (.iload_n 2, 1) := by decide +kernel
theorem dX10_steer_23 : decode cX10_steer 23 = .ok (.ifCond .ne 16, 3) := by decide +kernel
theorem dX10_steer_26 : decode cX10_steer 26 = .ok (.aload_n 0, 1) := by decide +kernel
theorem dX10_steer_27 : decode cX10_steer 27 = .ok (.getfield 28, 3) := by decide +kernel
theorem dX10_steer_30 : decode cX10_steer 30 = .ok (.iload_n 3, 1) := by decide +kernel
theorem dX10_steer_31 : decode cX10_steer 31 = .ok (.iaload, 1) := by decide +kernel
theorem dX10_steer_32 : decode cX10_steer 32 = .ok (.iload_n 1, 1) := by decide +kernel
theorem dX10_steer_33 : decode cX10_steer 33 = .ok (.invokestatic 127, 3) := by decide +kernel
theorem dX10_steer_36 : decode cX10_steer 36 = .ok (.ifCond .eq 7, 3) := by decide +kernel
theorem dX10_steer_39 : decode cX10_steer 39 = .ok (.iconst 1, 1) := by decide +kernel
theorem dX10_steer_40 : decode cX10_steer 40 = .ok (.goto 4, 3) := by decide +kernel
theorem dX10_steer_43 : decode cX10_steer 43 = .ok (.iconst 0, 1) := by decide +kernel
theorem dX10_steer_44 : decode cX10_steer 44 = .ok (.istore_n 2, 1) := by decide +kernel
theorem dX10_steer_45 : decode cX10_steer 45 = .ok (.iinc 3 1, 3) := by decide +kernel
theorem dX10_steer_48 : decode cX10_steer 48 = .ok (.goto (-34), 3) := by decide +kernel
theorem dX10_steer_51 : decode cX10_steer 51 = .ok (.iload_n 2, 1) := by decide +kernel
theorem dX10_steer_52 : decode cX10_steer 52 = .ok (.ifCond .ne 6, 3) := by decide +kernel
theorem dX10_steer_55 : decode cX10_steer 55 = .ok (.bipush (-9), 2) := by decide +kernel
theorem dX10_steer_57 : decode cX10_steer 57 = .ok (.ireturn, 1) := by decide +kernel
