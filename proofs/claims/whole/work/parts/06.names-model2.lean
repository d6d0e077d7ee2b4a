theorem dX10_steer_58 : decode cX10_steer 58 = .ok (.aload_n 0, 1) := by decide +kernel
theorem dX10_steer_59 : decode cX10_steer 59 = .ok (.invokevirtual 164, 3) := by decide +kernel
theorem dX10_steer_62 : decode cX10_steer 62 = .ok (.iconst 0, 1) := by decide +kernel
theorem dX10_steer_63 : decode cX10_steer 63 = .ok (.istore_n 3, 1) := by decide +kernel
theorem dX10_steer_64 : decode cX10_steer 64 = .ok (.aload_n 0, 1) := by decide +kernel
theorem dX10_steer_65 : decode cX10_steer 65 = .ok (.invokevirtual 145, 3) := by decide +kernel
theorem dX10_steer_68 : decode cX10_steer 68 = .ok (.istore 4, 2) := by decide +kernel
theorem dX10_steer_70 : decode cX10_steer 70 = .ok (.aload_n 0, 1) := by decide +kernel
theorem dX10_steer_71 : decode cX10_steer 71 = .ok (.getfield 28, 3) := by decide +kernel
theorem dX10_steer_74 : decode cX10_steer 74 = .ok (.iload 4, 2) := by decide +kernel
theorem dX10_steer_76 : decode cX10_steer 76 = .ok (.iaload, 1) := by decide +kernel
theorem dX10_steer_77 : decode cX10_steer 77 = .ok (.iload_n 1, 1) := by decide +kernel
theorem dX10_steer_78 : decode cX10_steer 78 = .ok (.invokestatic 127, 3) := by decide +kernel
theorem dX10_steer_81 : decode cX10_steer 81 = .ok (.ifCond .ne 26, 3) := by decide +kernel
theorem dX10_steer_84 : decode cX10_steer 84 = .ok (.aload_n 0, 1) := by decide +kernel
theorem dX10_steer_85 : decode cX10_steer 85 = .ok (.getfield 25, 3) := by decide +kernel
theorem dX10_steer_88 : decode cX10_steer 88 = .ok (.iload 4, 2) := by decide +kernel
theorem dX10_steer_90 : decode cX10_steer 90 = .ok (.dup2, 1) := by decide +kernel
theorem dX10_steer_91 : decode cX10_steer 91 = .ok (.iaload, 1) := by decide +kernel
theorem dX10_steer_92 : decode cX10_steer 92 = .ok (.iconst 1, 1) := by decide +kernel
theorem dX10_steer_93 : decode cX10_steer 93 = .ok (.iadd, 1) := by decide +kernel
theorem dX10_steer_94 : decode cX10_steer 94 = .ok (.iastore, 1) := by decide +kernel
theorem dX10_steer_95 : decode cX10_steer 95 = .ok (.iinc 3 1, 3) := by decide +kernel
theorem dX10_steer_98 : decode cX10_steer 98 = .ok (.aload_n 0, 1) := by decide +kernel
theorem dX10_steer_99 : decode cX10_steer 99 = .ok (.invokevirtual 145, 3) := by decide +kernel
theorem dX10_steer_102 : decode cX10_steer 102 = .ok (.istore 4, 2) := by decide +kernel
theorem dX10_steer_104 : decode cX10_steer 104 = .ok (.goto (-34), 3) := by decide +kernel
theorem dX10_steer_107 : decode cX10_steer 107 = .ok (.aload_n 0, 1) := by decide +kernel
theorem dX10_steer_108 : decode cX10_steer 108 = .ok (.invokevirtual 173, 3) := by decide +kernel
theorem dX10_steer_111 : decode cX10_steer 111 = .ok (.iload_n 3, 1) := by decide +kernel
theorem dX10_steer_112 : decode cX10_steer 112 = .ok (.ireturn, 1) := by decide +kernel
theorem dX10_even_0 : decode cX10_even 0 = .ok (.aload_n 0, 1) := by decide +kernel
theorem dX10_even_1 : decode cX10_even 1 = .ok (.getfield 77, 3) := by decide +kernel
theorem dX10_even_4 : decode cX10_even 4 = .ok (.ifCond .ne 6, 3) := by decide +kernel
theorem dX10_even_7 : decode cX10_even 7 = .ok (.bipush (-3), 2) := by decide +kernel
theorem dX10_even_9 : decode cX10_even 9 = .ok (.ireturn, 1) := by decide +kernel
theorem dX10_even_10 : decode cX10_even 10 = .ok (.iconst 0, 1) := by decide +kernel
theorem dX10_even_11 : decode cX10_even 11 = .ok (.istore_n 1, 1) := by decide +kernel
theorem dX10_even_12 : decode cX10_even 12 = .ok (.iconst 0, 1) := by decide +kernel
theorem dX10_even_13 : decode cX10_even 13 = .ok (.istore_n 2, 1) := by decide +kernel
theorem dX10_even_14 : decode cX10_even 14 = .ok (.iload_n 2, 1) := by decide +kernel
theorem dX10_even_15 : decode cX10_even 15 = .ok (.aload_n 0, 1) := by decide +kernel
theorem dX10_even_16 : decode cX10_even 16 = .ok (.getfield 77, 3) := by decide +kernel
theorem dX10_even_19 : decode cX10_even 19 = .ok (.if_icmp .ge 30, 3) := by decide +kernel
theorem dX10_even_22 : decode cX10_even 22 = .ok (.aload_n 0, 1) := by decide +kernel
theorem dX10_even_23 : decode cX10_even 23 = .ok (.getfield 25, 3) := by decide +kernel
theorem dX10_even_26 : decode cX10_even 26 = .ok (.iload_n 2, 1) := by decide +kernel
theorem dX10_even_27 : decode cX10_even 27 = .ok (.iaload, 1) := by decide +kernel
theorem dX10_even_28 : decode cX10_even 28 = .ok (.iload_n 1, 1) := by decide +kernel
theorem dX10_even_29 : decode cX10_even 29 = .ok (.if_icmp .le 12, 3) := by decide +kernel
theorem dX10_even_32 : decode cX10_even 32 = .ok (.aload_n 0, 1) := by decide +kernel
theorem dX10_even_33 : decode cX10_even 33 = .ok (.getfield 25, 3) := by decide +kernel
theorem dX10_even_36 : decode cX10_even 36 = .ok (.iload_n 2, 1) := by decide +kernel
theorem dX10_even_37 : decode cX10_even 37 = .ok (.iaload, 1) := by decide +kernel
theorem dX10_even_38 : decode cX10_even 38 = .ok (.goto 4, 3) := by decide +kernel
theorem dX10_even_41 : decode cX10_even 41 = .ok (.iload_n 1, 1) := by decide +kernel
theorem dX10_even_42 : decode cX10_even 42 = .ok (.istore_n 1, 1) := by decide +kernel
theorem dX10_even_43 : decode cX10_even 43 = .ok (.iinc 2 1, 3) := by decide +kernel
theorem dX10_even_46 : decode cX10_even 46 = .ok (.goto (-32), 3) := by decide +kernel
theorem dX10_even_49 : decode cX10_even 49 = .ok (.iconst 0, 1) := by decide +kernel
theorem dX10_even_50 : decode cX10_even 50 = .ok (.istore_n 2, 1) := by decide +kernel
theorem dX10_even_51 : decode cX10_even 51 = .ok (.iconst 0, 1) := by decide +kernel
theorem dX10_even_52 : decode cX10_even 52 = .ok (.istore_n 3, 1) := by decide +kernel
theorem dX10_even_53 : decode cX10_even 53 = .ok (.iload_n 3, 1) := by decide +kernel
theorem dX10_even_54 : decode cX10_even 54 = .ok (.aload_n 0, 1) := by decide +kernel
theorem dX10_even_55 : decode cX10_even 55 = .ok (.getfield 77, 3) := by decide +kernel
theorem dX10_even_58 : decode cX10_even 58 = .ok (.if_icmp .ge 20, 3) := by decide +kernel
theorem dX10_even_61 : decode cX10_even 61 = .ok (.iload_n 2, 1) := by decide +kernel
theorem dX10_even_62 : decode cX10_even 62 = .ok (.iload_n 1, 1) := by decide +kernel
theorem dX10_even_63 : decode cX10_even 63 = .ok (.aload_n 0, 1) := by decide +kernel
theorem dX10_even_64 : decode cX10_even 64 = .ok (.getfield 25, 3) := by decide +kernel
theorem dX10_even_67 : decode cX10_even 67 = .ok (.iload_n 3, 1) := by decide +kernel
theorem dX10_even_68 : decode cX10_even 68 = .ok (.iaload, 1) := by decide +kernel
theorem dX10_even_69 : decode cX10_even 69 = .ok (.isub, 1) := by decide +kernel
theorem dX10_even_70 : decode cX10_even 70 = .ok (.iadd, 1) := by decide +kernel
theorem dX10_even_71 : decode cX10_even 71 = .ok (.istore_n 2, 1) := by decide +kernel
theorem dX10_even_72 : decode cX10_even 72 = .ok (.iinc 3 1, 3) := by decide +kernel
theorem dX10_even_75 : decode cX10_even 75 = .ok (.goto (-22), 3) := by decide +kernel
theorem dX10_even_78 : decode cX10_even 78 = .ok (.iload_n 2, 1) := by decide +kernel
theorem dX10_even_79 : decode cX10_even 79 = .ok (.ireturn, 1) := by decide +kernel
theorem dX10_ordersOf_0 : decode cX10_ordersOf 0 = .ok (.iconst 1, 1) := by decide +kernel
theorem dX10_ordersOf_1 : decode cX10_ordersOf 1 = .ok (.istore_n 1, 1) := by decide +kernel
theorem dX10_ordersOf_2 : decode cX10_ordersOf 2 = .ok (.iconst 2, 1) := by decide +kernel
theorem dX10_ordersOf_3 : decode cX10_ordersOf 3 = .ok (.istore_n 2, 1) := by decide +kernel
theorem dX10_ordersOf_4 : decode cX10_ordersOf 4 = .ok (.iload_n 2, 1) := by decide +kernel
theorem dX10_ordersOf_5 : decode cX10_ordersOf 5 = .ok (.iload_n 0, 1) := by decide +kernel
theorem dX10_ordersOf_6 : decode cX10_ordersOf 6 = .ok (.if_icmp .gt 13, 3) := by decide +kernel
theorem dX10_ordersOf_9 : decode cX10_ordersOf 9 = .ok (.iload_n 1, 1) := by decide +kernel
theorem dX10_ordersOf_10 : decode cX10_ordersOf 10 = .ok (.iload_n 2, 1) := by decide +kernel
theorem dX10_ordersOf_11 : decode cX10_ordersOf 11 = .ok (.imul, 1) := by decide +kernel
theorem dX10_ordersOf_12 : decode cX10_ordersOf 12 = .ok (.istore_n 1, 1) := by decide +kernel
theorem dX10_ordersOf_13 : decode cX10_ordersOf 13 = .ok (.iinc 2 1, 3) := by decide +kernel
theorem dX10_ordersOf_16 : decode cX10_ordersOf 16 = .ok (.goto (-12), 3) := by decide +kernel
theorem dX10_ordersOf_19 : decode cX10_ordersOf 19 = .ok (.iload_n 1, 1) := by decide +kernel
theorem dX10_ordersOf_20 : decode cX10_ordersOf 20 = .ok (.ireturn, 1) := by decide +kernel
set_option maxRecDepth 20000 in
theorem ggX10_findRow_X10_ordersOf : GoodIn wsX10_findRow wsX10_ordersOf := goodIn_r _ [5] (by decide +kernel) (by decide +kernel)
set_option maxRecDepth 20000 in
theorem gX10_findRow_X10_ordersOf : GoodIn wsX10_findRow (va_wsS RX10 176 yX10_ordersOf wsX10_ordersOf) := goodIn_app (goodIn_of _ (by decide +kernel)) ggX10_findRow_X10_ordersOf
set_option maxRecDepth 20000 in
theorem ggX10_findRow_X10_isOf : GoodIn wsX10_findRow wsX10_isOf := goodIn_r _ [8] (by decide +kernel) (by decide +kernel)
set_option maxRecDepth 20000 in
theorem gX10_findRow_X10_isOf : GoodIn wsX10_findRow (va_wsS RX10 127 yX10_isOf wsX10_isOf) := goodIn_app (goodIn_of _ (by decide +kernel)) ggX10_findRow_X10_isOf
theorem dX10_findRow_0 : decode cX10_findRow 0 = .ok (.iload_n 1, 1) := by decide +kernel
theorem dX10_findRow_1 : decode cX10_findRow 1 = .ok (.istore_n 3, 1) := by decide +kernel
theorem dX10_findRow_2 : decode cX10_findRow 2 = .ok (.iload_n 2, 1) := by decide +kernel
theorem dX10_findRow_3 : decode cX10_findRow 3 = .ok (.iconst 1, 1) := by decide +kernel
theorem dX10_findRow_4 : decode cX10_findRow 4 = .ok (.isub, 1) := by decide +kernel
theorem dX10_findRow_5 : decode cX10_findRow 5 = .ok (.invokestatic 176, 3) := by decide +kernel
theorem dX10_findRow_8 : decode cX10_findRow 8 = .ok (.istore 4, 2) := by decide +kernel
theorem dX10_findRow_10 : decode cX10_findRow 10 = .ok (.iconst 0, 1) := by decide +kernel
theorem dX10_findRow_11 : decode cX10_findRow 11 = .ok (.istore 5, 2) := by decide +kernel
theorem dX10_findRow_13 : decode cX10_findRow 13 = .ok (.iconst 0, 1) := by decide +kernel
theorem dX10_findRow_14 : decode cX10_findRow 14 = .ok (.istore 6, 2) := by decide +kernel
theorem dX10_findRow_16 : decode cX10_findRow 16 = .ok (.iload 6, 2) := by decide +kernel
theorem dX10_findRow_18 : decode cX10_findRow 18 = .ok (.iload_n 2, 1) := by decide +kernel
theorem dX10_findRow_19 : decode cX10_findRow 19 = .ok (.if_icmp .ge 107, 3) := by decide +kernel
theorem dX10_findRow_22 : decode cX10_findRow 22 = .ok (.iload_n 3, 1) := by decide +kernel
theorem dX10_findRow_23 : decode cX10_findRow 23 = .ok (.iload 4, 2) := by decide +kernel
theorem dX10_findRow_25 : decode cX10_findRow 25 = .ok (.idiv, 1) := by decide +kernel
theorem dX10_findRow_26 : decode cX10_findRow 26 = .ok (.istore 7, 2) := by decide +kernel
theorem dX10_findRow_28 : decode cX10_findRow 28 = .ok (.iload_n 3, 1) := by decide +kernel
theorem dX10_findRow_29 : decode cX10_findRow 29 = .ok (.iload 4, 2) := by decide +kernel
theorem dX10_findRow_31 : decode cX10_findRow 31 = .ok (.irem, 1) := by decide +kernel
theorem dX10_findRow_32 : decode cX10_findRow 32 = .ok (.istore_n 3, 1) := by decide +kernel
theorem dX10_findRow_33 : decode cX10_findRow 33 = .ok (.iconst 0, 1) := by decide +kernel
theorem dX10_findRow_34 : decode cX10_findRow 34 = .ok (.istore 8, 2) := by decide +kernel
theorem dX10_findRow_36 : decode cX10_findRow 36 = .ok (.iload 5, 2) := by decide +kernel
theorem dX10_findRow_38 : decode cX10_findRow 38 = .ok (.iload 8, 2) := by decide +kernel
theorem dX10_findRow_40 : decode cX10_findRow 40 = .ok (.invokestatic 127, 3) := by decide +kernel
theorem dX10_findRow_43 : decode cX10_findRow 43 = .ok (.ifCond .ne 8, 3) := by decide +kernel
theorem dX10_findRow_46 : decode cX10_findRow 46 = .ok (.iload 7, 2) := by decide +kernel
theorem dX10_findRow_48 : decode cX10_findRow 48 = .ok (.ifCond .le 29, 3) := by decide +kernel
theorem dX10_findRow_51 : decode cX10_findRow 51 = .ok (.iload 7, 2) := by decide +kernel
theorem dX10_findRow_53 : decode cX10_findRow 53 = .ok (.iload 5, 2) := by decide +kernel
theorem dX10_findRow_55 : decode cX10_findRow 55 = .ok (.iload 8, 2) := by decide +kernel
theorem dX10_findRow_57 : decode cX10_findRow 57 = .ok (.invokestatic 127, 3) := by decide +kernel
theorem dX10_findRow_60 : decode cX10_findRow 60 = .ok (.ifCond .eq 7, 3) := by decide +kernel
theorem dX10_findRow_63 : decode cX10_findRow 63 = .ok (.iconst 0, 1) := by decide +kernel
theorem dX10_findRow_64 : decode cX10_findRow 64 = .ok (.goto 4, 3) := by decide +kernel
theorem dX10_findRow_67 : decode cX10_findRow 67 = .ok (.iconst 1, 1) := by decide +kernel
theorem dX10_findRow_68 : decode cX10_findRow 68 = .ok (.isub, 1) := by decide +kernel
theorem dX10_findRow_69 : decode cX10_findRow 69 = .ok (.istore 7, 2) := by decide +kernel
theorem dX10_findRow_71 : decode cX10_findRow 71 = .ok (.iinc 8 1, 3) := by decide +kernel
theorem dX10_findRow_74 : decode cX10_findRow 74 = .ok (.goto (-38), 3) := by decide +kernel
theorem dX10_findRow_77 : decode cX10_findRow 77 = .ok (.aload_n 0, 1) := by decide +kernel
theorem dX10_findRow_78 : decode cX10_findRow 78 = .ok (.getfield 46, 3) := by decide +kernel
theorem dX10_findRow_81 : decode cX10_findRow 81 = .ok (.iload 6, 2) := by decide +kernel
theorem dX10_findRow_83 : decode cX10_findRow 83 = .ok (.iload 8, 2) := by decide +kernel
theorem dX10_findRow_85 : decode cX10_findRow 85 = .ok (.iastore, 1) := by decide +kernel
theorem dX10_findRow_86 : decode cX10_findRow 86 = .ok (.iload 5, 2) := by decide +kernel
theorem dX10_findRow_88 : decode cX10_findRow 88 = .ok (.iconst 1, 1) := by decide +kernel
theorem dX10_findRow_89 : decode cX10_findRow 89 = .ok (.iload 8, 2) := by decide +kernel
theorem dX10_findRow_91 : decode cX10_findRow 91 = .ok (.ishl, 1) := by decide +kernel
theorem dX10_findRow_92 : decode cX10_findRow 92 = .ok (.ior, 1) := by decide +kernel
theorem dX10_findRow_93 : decode cX10_findRow 93 = .ok (.istore 5, 2) := by decide +kernel
theorem dX10_findRow_95 : decode cX10_findRow 95 = .ok (.iload_n 2, 1) := by decide +kernel
theorem dX10_findRow_96 : decode cX10_findRow 96 = .ok (.iload 6, 2) := by decide +kernel
theorem dX10_findRow_98 : decode cX10_findRow 98 = .ok (.isub, 1) := by decide +kernel
theorem dX10_findRow_99 : decode cX10_findRow 99 = .ok (.iconst 1, 1) := by decide +kernel
theorem dX10_findRow_100 : decode cX10_findRow 100 = .ok (.isub, 1) := by decide +kernel
theorem dX10_findRow_101 : decode cX10_findRow 101 = .ok (.iconst 1, 1) := by decide +kernel
theorem dX10_findRow_102 : decode cX10_findRow 102 = .ok (.if_icmp .le 15, 3) := by decide +kernel
theorem dX10_findRow_105 : decode cX10_findRow 105 = .ok (.iload 4, 2) := by decide +kernel
theorem dX10_findRow_107 : decode cX10_findRow 107 = .ok (.iload_n 2, 1) := by decide +kernel
theorem dX10_findRow_108 : decode cX10_findRow 108 = .ok (.iload 6, 2) := by decide +kernel
theorem dX10_findRow_110 : decode cX10_findRow 110 = .ok (.isub, 1) := by decide +kernel
theorem dX10_findRow_111 : decode cX10_findRow 111 = .ok (.iconst 1, 1) := by decide +kernel
theorem dX10_findRow_112 : decode cX10_findRow 112 = .ok (.isub, 1) := by decide +kernel
theorem dX10_findRow_113 : decode cX10_findRow 113 = .ok (.idiv, 1) := by decide +kernel
theorem dX10_findRow_114 : decode cX10_findRow 114 = .ok (.goto 4, 3) := by decide +kernel
theorem dX10_findRow_117 : decode cX10_findRow 117 = .ok (.iconst 1, 1) := by decide +kernel
theorem dX10_findRow_118 : decode cX10_findRow 118 = .ok (.istore 4, 2) := by decide +kernel
theorem dX10_findRow_120 : decode cX10_findRow 120 = .ok (.iinc 6 1, 3) := by decide +kernel
theorem dX10_findRow_123 : decode cX10_findRow 123 = .ok (.goto (-107), 3) := by decide +kernel
theorem dX10_findRow_126 : decode cX10_findRow 126 = .ok (.return_, 1) := by decide +kernel
set_option maxRecDepth 20000 in
theorem ggX10_findAsked_X10_keep : GoodIn wsX10_findAsked wsX10_keep := goodIn_r _ [7, 8, 9, 2, 10, 11, 20, 21, 22, 23, 24, 25, 26, 27, 28, 29, 30, 31, 32, 33, 34, 35, 36, 37, 38, 39, 40, 41, 42, 43, 44, 45, 46, 47, 48, 49, 50, 51] (by decide +kernel) (by decide +kernel)
set_option maxRecDepth 20000 in
theorem gX10_findAsked_X10_keep : GoodIn wsX10_findAsked (wsV RX10 164 RX10 yX10_keep wsX10_keep) := goodIn_app (goodIn_of _ (by decide +kernel)) ggX10_findAsked_X10_keep
set_option maxRecDepth 20000 in
theorem ggX10_findAsked_X10_firstOf : GoodIn wsX10_findAsked wsX10_firstOf := goodIn_r _ [15, 8, 2, 20, 21, 22, 23, 24, 25, 26, 27, 28, 29, 30, 31, 32, 33, 34, 35, 36, 37, 38, 39, 40, 41, 42, 43, 44, 45, 46, 47, 48, 49, 50, 51] (by decide +kernel) (by decide +kernel)
set_option maxRecDepth 20000 in
theorem gX10_findAsked_X10_firstOf : GoodIn wsX10_findAsked (wsV RX10 145 RX10 yX10_firstOf wsX10_firstOf) := goodIn_app (goodIn_of _ (by decide +kernel)) ggX10_findAsked_X10_firstOf
set_option maxRecDepth 20000 in
theorem ggX10_findAsked_X10_putBack : GoodIn wsX10_findAsked wsX10_putBack := goodIn_r _ [19, 8, 2, 9, 11, 10, 20, 21, 22, 23, 24, 25, 26, 27, 28, 29, 30, 31, 32, 33, 34, 35, 36, 37, 38, 39, 40, 41, 42, 43, 44, 45, 46, 47, 48, 49, 50, 51] (by decide +kernel) (by decide +kernel)
set_option maxRecDepth 20000 in
theorem gX10_findAsked_X10_putBack : GoodIn wsX10_findAsked (wsV RX10 173 RX10 yX10_putBack wsX10_putBack) := goodIn_app (goodIn_of _ (by decide +kernel)) ggX10_findAsked_X10_putBack
theorem dX10_findAsked_0 : decode cX10_findAsked 0 = .ok (.aload_n 0, 1) := by decide +kernel
theorem dX10_findAsked_1 : decode cX10_findAsked 1 = .ok (.invokevirtual 164, 3) := by decide +kernel
theorem dX10_findAsked_4 : decode cX10_findAsked 4 = .ok (.iconst 0, 1) := by decide +kernel
theorem dX10_findAsked_5 : decode cX10_findAsked 5 = .ok (.istore_n 2, 1) := by decide +kernel
theorem dX10_findAsked_6 : decode cX10_findAsked 6 = .ok (.iload_n 2, 1) := by decide +kernel
theorem dX10_findAsked_7 : decode cX10_findAsked 7 = .ok (.iload_n 1, 1) := by decide +kernel
theorem dX10_findAsked_8 : decode cX10_findAsked 8 = .ok (.if_icmp .ge 34, 3) := by decide +kernel
theorem dX10_findAsked_11 : decode cX10_findAsked 11 = .ok (.aload_n 0, 1) := by decide +kernel
theorem dX10_findAsked_12 : decode cX10_findAsked 12 = .ok (.getfield 49, 3) := by decide +kernel
theorem dX10_findAsked_15 : decode cX10_findAsked 15 = .ok (.iload_n 2, 1) := by decide +kernel
theorem dX10_findAsked_16 : decode cX10_findAsked 16 = .ok (.aload_n 0, 1) := by decide +kernel
theorem dX10_findAsked_17 : decode cX10_findAsked 17 = .ok (.invokevirtual 145, 3) := by decide +kernel
theorem dX10_findAsked_20 : decode cX10_findAsked 20 = .ok (.iastore, 1) := by decide +kernel
theorem dX10_findAsked_21 : decode cX10_findAsked 21 = .ok (.aload_n 0, 1) := by decide +kernel
theorem dX10_findAsked_22 : decode cX10_findAsked 22 = .ok (.getfield 25, 3) := by decide +kernel
theorem dX10_findAsked_25 : decode cX10_findAsked 25 = .ok (.aload_n 0, 1) := by decide +kernel
theorem dX10_findAsked_26 : decode cX10_findAsked 26 = .ok (.getfield 49, 3) := by decide +kernel
theorem dX10_findAsked_29 : decode cX10_findAsked 29 = .ok (.iload_n 2, 1) := by decide +kernel
theorem dX10_findAsked_30 : decode cX10_findAsked 30 = .ok (.iaload, 1) := by decide +kernel
theorem dX10_findAsked_31 : decode cX10_findAsked 31 = .ok (.dup2, 1) := by decide +kernel
theorem dX10_findAsked_32 : decode cX10_findAsked 32 = .ok (.iaload, 1) := by decide +kernel
theorem dX10_findAsked_33 : decode cX10_findAsked 33 = .ok (.iconst 1, 1) := by decide +kernel
theorem dX10_findAsked_34 : decode cX10_findAsked 34 = .ok (.iadd, 1) := by decide +kernel
theorem dX10_findAsked_35 : decode cX10_findAsked 35 = .ok (.iastore, 1) := by decide +kernel
theorem dX10_findAsked_36 : decode cX10_findAsked 36 = .ok (.iinc 2 1, 3) := by decide +kernel
theorem dX10_findAsked_39 : decode cX10_findAsked 39 = .ok (.goto (-33), 3) := by decide +kernel
theorem dX10_findAsked_42 : decode cX10_findAsked 42 = .ok (.aload_n 0, 1) := by decide +kernel
theorem dX10_findAsked_43 : decode cX10_findAsked 43 = .ok (.invokevirtual 173, 3) := by decide +kernel
theorem dX10_findAsked_46 : decode cX10_findAsked 46 = .ok (.return_, 1) := by decide +kernel
set_option maxRecDepth 20000 in
theorem ggX10_broughtByRow_X10_bringsOf : GoodIn wsX10_broughtByRow wsX10_bringsOf := goodIn_r _ [8, 9, 10, 11, 12, 7, 13, 14, 15, 16, 17, 18, 19, 20, 21, 22, 23, 24, 25, 26, 27, 28, 29, 30, 31, 32, 33, 34, 35, 36, 37, 38, 39, 40, 41, 42, 43, 44, 45, 46, 47, 48, 49, 50, 51] (by decide +kernel) (by decide +kernel)
set_option maxRecDepth 20000 in
theorem gX10_broughtByRow_X10_bringsOf : GoodIn wsX10_broughtByRow (wsV RX10 142 RX10 yX10_bringsOf wsX10_bringsOf) := goodIn_app (goodIn_of _ (by decide +kernel)) ggX10_broughtByRow_X10_bringsOf
theorem dX10_broughtByRow_0 : decode cX10_broughtByRow 0 = .ok (.iconst 0, 1) := by decide +kernel
theorem dX10_broughtByRow_1 : decode cX10_broughtByRow 1 = .ok (.istore_n 3, 1) := by decide +kernel
theorem dX10_broughtByRow_2 : decode cX10_broughtByRow 2 = .ok (.iconst 0, 1) := by decide +kernel
theorem dX10_broughtByRow_3 : decode cX10_broughtByRow 3 = .ok (.istore 4, 2) := by decide +kernel
theorem dX10_broughtByRow_5 : decode cX10_broughtByRow 5 = .ok (.iload 4, 2) := by decide +kernel
theorem dX10_broughtByRow_7 : decode cX10_broughtByRow 7 = .ok (.iload_n 2, 1) := by decide +kernel
theorem dX10_broughtByRow_8 : decode cX10_broughtByRow 8 = .ok (.if_icmp .ge 37, 3) := by decide +kernel
theorem dX10_broughtByRow_11 : decode cX10_broughtByRow 11 = .ok (.iload_n 3, 1) := by decide +kernel
theorem dX10_broughtByRow_12 : decode cX10_broughtByRow 12 = .ok (.aload_n 0, 1) := by decide +kernel
theorem dX10_broughtByRow_13 : decode cX10_broughtByRow 13 = .ok (.aload_n 0, 1) := by decide +kernel
theorem dX10_broughtByRow_14 : decode cX10_broughtByRow 14 = .ok (.getfield 49, 3) := by decide +kernel
theorem dX10_broughtByRow_17 : decode cX10_broughtByRow 17 = .ok (.iload 4, 2) := by decide +kernel
theorem dX10_broughtByRow_19 : decode cX10_broughtByRow 19 = .ok (.iaload, 1) := by decide +kernel
theorem dX10_broughtByRow_20 : decode cX10_broughtByRow 20 = .ok (.aload_n 0, 1) := by decide +kernel
theorem dX10_broughtByRow_21 : decode cX10_broughtByRow 21 = .ok (.getfield 16, 3) := by decide +kernel
theorem dX10_broughtByRow_24 : decode cX10_broughtByRow 24 = .ok (.iload_n 1, 1) := by decide +kernel
theorem dX10_broughtByRow_25 : decode cX10_broughtByRow 25 = .ok (.aload_n 0, 1) := by decide +kernel
theorem dX10_broughtByRow_26 : decode cX10_broughtByRow 26 = .ok (.getfield 46, 3) := by decide +kernel
theorem dX10_broughtByRow_29 : decode cX10_broughtByRow 29 = .ok (.iload 4, 2) := by decide +kernel
theorem dX10_broughtByRow_31 : decode cX10_broughtByRow 31 = .ok (.iaload, 1) := by decide +kernel
theorem dX10_broughtByRow_32 : decode cX10_broughtByRow 32 = .ok (.iadd, 1) := by decide +kernel
theorem dX10_broughtByRow_33 : decode cX10_broughtByRow 33 = .ok (.iaload, 1) := by decide +kernel
theorem dX10_broughtByRow_34 : decode cX10_broughtByRow 34 = .ok (.invokevirtual 142, 3) := by decide +kernel
theorem dX10_broughtByRow_37 : decode cX10_broughtByRow 37 = .ok (.iadd, 1) := by decide +kernel
theorem dX10_broughtByRow_38 : decode cX10_broughtByRow 38 = .ok (.istore_n 3, 1) := by decide +kernel
theorem dX10_broughtByRow_39 : decode cX10_broughtByRow 39 = .ok (.iinc 4 1, 3) := by decide +kernel
theorem dX10_broughtByRow_42 : decode cX10_broughtByRow 42 = .ok (.goto (-37), 3) := by decide +kernel
theorem dX10_broughtByRow_45 : decode cX10_broughtByRow 45 = .ok (.iload_n 3, 1) := by decide +kernel
theorem dX10_broughtByRow_46 : decode cX10_broughtByRow 46 = .ok (.ireturn, 1) := by decide +kernel
set_option maxRecDepth 20000 in
theorem ggX10_plan_X10_isSheet : GoodIn wsX10_plan wsX10_isSheet := goodIn_r _ [7, 8, 9, 6, 10] (by decide +kernel) (by decide +kernel)
set_option maxRecDepth 20000 in
theorem gX10_plan_X10_isSheet : GoodIn wsX10_plan (va_wsS RX10 83 yX10_isSheet wsX10_isSheet) := goodIn_app (goodIn_of _ (by decide +kernel)) ggX10_plan_X10_isSheet
set_option maxRecDepth 20000 in
theorem ggX10_plan_X10_isSort : GoodIn wsX10_plan wsX10_isSort := goodIn_r _ [13, 8, 9, 6, 10] (by decide +kernel) (by decide +kernel)
set_option maxRecDepth 20000 in
theorem gX10_plan_X10_isSort : GoodIn wsX10_plan (va_wsS RX10 87 yX10_isSort wsX10_isSort) := goodIn_app (goodIn_of _ (by decide +kernel)) ggX10_plan_X10_isSort
set_option maxRecDepth 20000 in
theorem ggX10_plan_X10_within : GoodIn wsX10_plan wsX10_within := goodIn_r _ [10] (by decide +kernel) (by decide +kernel)
set_option maxRecDepth 20000 in
theorem gX10_plan_X10_within : GoodIn wsX10_plan (va_wsS RX10 73 yX10_within wsX10_within) := goodIn_app (goodIn_of _ (by decide +kernel)) ggX10_plan_X10_within
set_option maxRecDepth 20000 in
theorem ggX10_plan_X10_against : GoodIn wsX10_plan wsX10_against := goodIn_r _ [17, 18, 19, 79, 80, 81, 82, 83, 84, 85, 86, 87, 88, 89, 90, 91, 92, 93, 94, 95, 96, 97, 98, 99, 100, 101, 102, 103, 104, 105, 106, 107, 108, 109, 110] (by decide +kernel) (by decide +kernel)
set_option maxRecDepth 20000 in
theorem gX10_plan_X10_against : GoodIn wsX10_plan (wsV RX10 90 RX10 yX10_against wsX10_against) := goodIn_app (goodIn_of _ (by decide +kernel)) ggX10_plan_X10_against
set_option maxRecDepth 20000 in
theorem ggX10_plan_X10_fails : GoodIn wsX10_plan wsX10_fails := goodIn_r _ [23, 1, 79, 80, 81, 82, 83, 84, 85, 86, 87, 88, 89, 90, 91, 92, 93, 94, 95, 96, 97, 98, 99, 100, 101, 102, 103, 104, 105, 106, 107, 108, 109, 110] (by decide +kernel) (by decide +kernel)
set_option maxRecDepth 20000 in
theorem gX10_plan_X10_fails : GoodIn wsX10_plan (wsV RX10 94 RX10 yX10_fails wsX10_fails) := goodIn_app (goodIn_of _ (by decide +kernel)) ggX10_plan_X10_fails
set_option maxRecDepth 20000 in
theorem ggX10_plan_X10_isMatter : GoodIn wsX10_plan wsX10_isMatter := goodIn_r _ [27, 2, 79, 80, 81, 82, 83, 84, 85, 86, 87, 88, 89, 90, 91, 92, 93, 94, 95, 96, 97, 98, 99, 100, 101, 102, 103, 104, 105, 106, 107, 108, 109, 110] (by decide +kernel) (by decide +kernel)
set_option maxRecDepth 20000 in
theorem gX10_plan_X10_isMatter : GoodIn wsX10_plan (wsV RX10 139 RX10 yX10_isMatter wsX10_isMatter) := goodIn_app (goodIn_of _ (by decide +kernel)) ggX10_plan_X10_isMatter
set_option maxRecDepth 20000 in
theorem ggX10_plan_X10_planOf : GoodIn wsX10_plan wsX10_planOf := goodIn_r _ [31, 32, 33, 34, 35, 6, 36, 37, 38, 39, 40, 41, 42, 2, 43, 44, 45, 46, 47, 48, 49, 50, 51, 52, 53, 54, 55, 56, 57, 58, 59, 60, 61, 62, 63, 64, 65, 66, 67, 3, 68, 69, 70, 71, 72, 73, 74, 75, 76, 77, 78, 79, 80, 81, 82, 83, 84, 85, 86, 87, 88, 89, 90, 91, 92, 93, 94, 95, 96, 97, 98, 99, 100, 101, 102, 103, 104, 105, 106, 107, 108, 109, 110] (by decide +kernel) (by decide +kernel)
set_option maxRecDepth 20000 in
theorem gX10_plan_X10_planOf : GoodIn wsX10_plan (wsV RX10 179 RX10 yX10_planOf wsX10_planOf) := goodIn_app (goodIn_of _ (by decide +kernel)) ggX10_plan_X10_planOf
theorem dX10_plan_0 : decode cX10_plan 0 = .ok (.aload_n 0, 1) := by decide +kernel
theorem dX10_plan_1 : decode cX10_plan 1 = .ok (.iconst 0, 1) := by decide +kernel
theorem dX10_plan_2 : decode cX10_plan 2 = .ok (.putfield 67, 3) := by decide +kernel
theorem dX10_plan_5 : decode cX10_plan 5 = .ok (.iload_n 1, 1) := by decide +kernel
theorem dX10_plan_6 : decode cX10_plan 6 = .ok (.invokestatic 83, 3) := by decide +kernel
theorem dX10_plan_9 : decode cX10_plan 9 = .ok (.ifCond .ne 5, 3) := by decide +kernel
theorem dX10_plan_12 : decode cX10_plan 12 = .ok (.iconst (-1), 1) := by decide +kernel
theorem dX10_plan_13 : decode cX10_plan 13 = .ok (.ireturn, 1) := by decide +kernel
theorem dX10_plan_14 : decode cX10_plan 14 = .ok (.iload_n 2, 1) := by decide +kernel
theorem dX10_plan_15 : decode cX10_plan 15 = .ok (.invokestatic 87, 3) := by decide +kernel
theorem dX10_plan_18 : decode cX10_plan 18 = .ok (.ifCond .eq 25, 3) := by decide +kernel
theorem dX10_plan_21 : decode cX10_plan 21 = .ok (.iload 4, 2) := by decide +kernel
theorem dX10_plan_23 : decode cX10_plan 23 = .ok (.iconst 0, 1) := by decide +kernel
theorem dX10_plan_24 : decode cX10_plan 24 = .ok (.bipush 7, 2) := by decide +kernel
theorem dX10_plan_26 : decode cX10_plan 26 = .ok (.invokestatic 73, 3) := by decide +kernel
theorem dX10_plan_29 : decode cX10_plan 29 = .ok (.ifCond .eq 14, 3) := by decide +kernel
theorem dX10_plan_32 : decode cX10_plan 32 = .ok (.iload 5, 2) := by decide +kernel
theorem dX10_plan_34 : decode cX10_plan 34 = .ok (.iconst (-1), 1) := by decide +kernel
theorem dX10_plan_35 : decode cX10_plan 35 = .ok (.bipush 6, 2) := by decide +kernel
theorem dX10_plan_37 : decode cX10_plan 37 = .ok (.invokestatic 73, 3) := by decide +kernel
theorem dX10_plan_40 : decode cX10_plan 40 = .ok (.ifCond .ne 6, 3) := by decide +kernel
theorem dX10_plan_43 : decode cX10_plan 43 = .ok (.bipush (-2), 2) := by decide +kernel
theorem dX10_plan_45 : decode cX10_plan 45 = .ok (.ireturn, 1) := by decide +kernel
theorem dX10_plan_46 : decode cX10_plan 46 = .ok (.aload_n 0, 1) := by decide +kernel
theorem dX10_plan_47 : decode cX10_plan 47 = .ok (.iload_n 1, 1) := by decide +kernel
theorem dX10_plan_48 : decode cX10_plan 48 = .ok (.iload_n 2, 1) := by decide +kernel
theorem dX10_plan_49 : decode cX10_plan 49 = .ok (.iload_n 3, 1) := by decide +kernel
theorem dX10_plan_50 : decode cX10_plan 50 = .ok (.iload 4, 2) := by decide +kernel
theorem dX10_plan_52 : decode cX10_plan 52 = .ok (.invokevirtual 90, 3) := by decide +kernel
theorem dX10_plan_55 : decode cX10_plan 55 = .ok (.istore 6, 2) := by decide +kernel
theorem dX10_plan_57 : decode cX10_plan 57 = .ok (.iload 6, 2) := by decide +kernel
theorem dX10_plan_59 : decode cX10_plan 59 = .ok (.ifCond .eq 10, 3) := by decide +kernel
theorem dX10_plan_62 : decode cX10_plan 62 = .ok (.aload_n 0, 1) := by decide +kernel
theorem dX10_plan_63 : decode cX10_plan 63 = .ok (.iload 6, 2) := by decide +kernel
theorem dX10_plan_65 : decode cX10_plan 65 = .ok (.invokevirtual 94, 3) := by decide +kernel
theorem dX10_plan_68 : decode cX10_plan 68 = .ok (.ireturn, 1) := by decide +kernel
theorem dX10_plan_69 : decode cX10_plan 69 = .ok (.aload_n 0, 1) := by decide +kernel
theorem dX10_plan_70 : decode cX10_plan 70 = .ok (.getfield 77, 3) := by decide +kernel
theorem dX10_plan_73 : decode cX10_plan 73 = .ok (.ifCond .ne 6, 3) := by decide +kernel
theorem dX10_plan_76 : decode cX10_plan 76 = .ok (.bipush (-3), 2) := by decide +kernel
theorem dX10_plan_78 : decode cX10_plan 78 = .ok (.ireturn, 1) := by decide +kernel
theorem dX10_plan_79 : decode cX10_plan 79 = .ok (.bipush 60, 2) := by decide +kernel
theorem dX10_plan_81 : decode cX10_plan 81 = .ok (.iload_n 1, 1) := by decide +kernel
theorem dX10_plan_82 : decode cX10_plan 82 = .ok (.imul, 1) := by decide +kernel
theorem dX10_plan_83 : decode cX10_plan 83 = .ok (.iload_n 3, 1) := by decide +kernel
theorem dX10_plan_84 : decode cX10_plan 84 = .ok (.iadd, 1) := by decide +kernel
theorem dX10_plan_85 : decode cX10_plan 85 = .ok (.istore 7, 2) := by decide +kernel
theorem dX10_plan_87 : decode cX10_plan 87 = .ok (.iconst 0, 1) := by decide +kernel
theorem dX10_plan_88 : decode cX10_plan 88 = .ok (.istore 8, 2) := by decide +kernel
theorem dX10_plan_90 : decode cX10_plan 90 = .ok (.iload 8, 2) := by decide +kernel
theorem dX10_plan_92 : decode cX10_plan 92 = .ok (.iload 4, 2) := by decide +kernel
theorem dX10_plan_94 : decode cX10_plan 94 = .ok (.if_icmp .ge 28, 3) := by decide +kernel
theorem dX10_plan_97 : decode cX10_plan 97 = .ok (.aload_n 0, 1) := by decide +kernel
theorem dX10_plan_98 : decode cX10_plan 98 = .ok (.aload_n 0, 1) := by decide +kernel
theorem dX10_plan_99 : decode cX10_plan 99 = .ok (.getfield 16, 3) := by decide +kernel
theorem dX10_plan_102 : decode cX10_plan 102 = .ok (.iload 7, 2) := by decide +kernel
theorem dX10_plan_104 : decode cX10_plan 104 = .ok (.iload 8, 2) := by decide +kernel
theorem dX10_plan_106 : decode cX10_plan 106 = .ok (.iadd, 1) := by decide +kernel
theorem dX10_plan_107 : decode cX10_plan 107 = .ok (.iaload, 1) := by decide +kernel
theorem dX10_plan_108 : decode cX10_plan 108 = .ok (.invokevirtual 139, 3) := by decide +kernel
theorem dX10_plan_111 : decode cX10_plan 111 = .ok (.ifCond .ne 5, 3) := by decide +kernel
theorem dX10_plan_114 : decode cX10_plan 114 = .ok (.iconst (-1), 1) := by decide +kernel
theorem dX10_plan_115 : decode cX10_plan 115 = .ok (.ireturn, 1) := by decide +kernel
theorem dX10_plan_116 : decode cX10_plan 116 = .ok (.iinc 8 1, 3) := by decide +kernel
theorem dX10_plan_119 : decode cX10_plan 119 = .ok (.goto (-29), 3) := by decide +kernel
theorem dX10_plan_122 : decode cX10_plan 122 = .ok (.aload_n 0, 1) := by decide +kernel
theorem dX10_plan_123 : decode cX10_plan 123 = .ok (.iload 7, 2) := by decide +kernel
theorem dX10_plan_125 : decode cX10_plan 125 = .ok (.iload 4, 2) := by decide +kernel
theorem dX10_plan_127 : decode cX10_plan 127 = .ok (.iload 5, 2) := by decide +kernel
theorem dX10_plan_129 : decode cX10_plan 129 = .ok (.invokevirtual 179, 3) := by decide +kernel
theorem dX10_plan_132 : decode cX10_plan 132 = .ok (.ireturn, 1) := by decide +kernel
set_option maxRecDepth 20000 in
theorem ggX10_planOf_X10_findAsked : GoodIn wsX10_planOf wsX10_findAsked := goodIn_r _ [6, 7, 8, 9, 10, 11, 5, 12, 13, 14, 15, 16, 17, 18, 19, 20, 21, 22, 23, 24, 51, 52, 53, 54, 55, 56, 57, 58, 59, 60, 61, 62, 63, 64, 65, 66, 67, 68, 69, 70, 71, 72, 73, 74, 75, 76, 77, 78, 79, 80, 81, 82] (by decide +kernel) (by decide +kernel)
set_option maxRecDepth 20000 in
theorem gX10_planOf_X10_findAsked : GoodIn wsX10_planOf (wsV RX10 183 RX10 yX10_findAsked wsX10_findAsked) := goodIn_app (goodIn_of _ (by decide +kernel)) ggX10_planOf_X10_findAsked
set_option maxRecDepth 20000 in
theorem ggX10_planOf_X10_ordersOf : GoodIn wsX10_planOf wsX10_ordersOf := goodIn_r _ [27] (by decide +kernel) (by decide +kernel)
set_option maxRecDepth 20000 in
theorem gX10_planOf_X10_ordersOf : GoodIn wsX10_planOf (va_wsS RX10 176 yX10_ordersOf wsX10_ordersOf) := goodIn_app (goodIn_of _ (by decide +kernel)) ggX10_planOf_X10_ordersOf
set_option maxRecDepth 20000 in
theorem ggX10_planOf_X10_findRow : GoodIn wsX10_planOf wsX10_findRow := goodIn_r _ [31, 1, 25, 26, 5, 27, 32, 33, 34, 51, 52, 53, 54, 55, 56, 57, 58, 59, 60, 61, 62, 63, 64, 65, 66, 67, 68, 69, 70, 71, 72, 73, 74, 75, 76, 77, 78, 79, 80, 81, 82] (by decide +kernel) (by decide +kernel)
set_option maxRecDepth 20000 in
theorem gX10_planOf_X10_findRow : GoodIn wsX10_planOf (wsV RX10 187 RX10 yX10_findRow wsX10_findRow) := goodIn_app (goodIn_of _ (by decide +kernel)) ggX10_planOf_X10_findRow
set_option maxRecDepth 20000 in
theorem ggX10_planOf_X10_broughtByRow : GoodIn wsX10_planOf wsX10_broughtByRow := goodIn_r _ [38, 7, 39, 1, 40, 41, 42, 5, 43, 16, 44, 32, 33, 34, 45, 46, 47, 48, 49, 50, 51, 52, 53, 54, 55, 56, 57, 58, 59, 60, 61, 62, 63, 64, 65, 66, 67, 68, 69, 70, 71, 72, 73, 74, 75, 76, 77, 78, 79, 80, 81, 82] (by decide +kernel) (by decide +kernel)
set_option maxRecDepth 20000 in
theorem gX10_planOf_X10_broughtByRow : GoodIn wsX10_planOf (wsV RX10 191 RX10 yX10_broughtByRow wsX10_broughtByRow) := goodIn_app (goodIn_of _ (by decide +kernel)) ggX10_planOf_X10_broughtByRow
theorem dX10_planOf_0 : decode cX10_planOf 0 = .ok (.aload_n 0, 1) := by decide +kernel
theorem dX10_planOf_1 : decode cX10_planOf 1 = .ok (.iload_n 2, 1) := by decide +kernel
theorem dX10_planOf_2 : decode cX10_planOf 2 = .ok (.invokevirtual 183, 3) := by decide +kernel
theorem dX10_planOf_5 : decode cX10_planOf 5 = .ok (.bipush (-9), 2) := by decide +kernel
theorem dX10_planOf_7 : decode cX10_planOf 7 = .ok (.istore 4, 2) := by decide +kernel
theorem dX10_planOf_9 : decode cX10_planOf 9 = .ok (.iconst 0, 1) := by decide +kernel
theorem dX10_planOf_10 : decode cX10_planOf 10 = .ok (.istore 5, 2) := by decide +kernel
theorem dX10_planOf_12 : decode cX10_planOf 12 = .ok (.iconst 0, 1) := by decide +kernel
theorem dX10_planOf_13 : decode cX10_planOf 13 = .ok (.istore 6, 2) := by decide +kernel
theorem dX10_planOf_15 : decode cX10_planOf 15 = .ok (.iload 6, 2) := by decide +kernel
theorem dX10_planOf_17 : decode cX10_planOf 17 = .ok (.iload_n 2, 1) := by decide +kernel
theorem dX10_planOf_18 : decode cX10_planOf 18 = .ok (.invokestatic 176, 3) := by decide +kernel
theorem dX10_planOf_21 : decode cX10_planOf 21 = .ok (.if_icmp .ge 46, 3) := by decide +kernel
theorem dX10_planOf_24 : decode cX10_planOf 24 = .ok (.aload_n 0, 1) := by decide +kernel
theorem dX10_planOf_25 : decode cX10_planOf 25 = .ok (.iload 6, 2) := by decide +kernel
theorem dX10_planOf_27 : decode cX10_planOf 27 = .ok (.iload_n 2, 1) := by decide +kernel
theorem dX10_planOf_28 : decode cX10_planOf 28 = .ok (.invokevirtual 187, 3) := by decide +kernel
theorem dX10_planOf_31 : decode cX10_planOf 31 = .ok (.aload_n 0, 1) := by decide +kernel
theorem dX10_planOf_32 : decode cX10_planOf 32 = .ok (.iload_n 1, 1) := by decide +kernel
theorem dX10_planOf_33 : decode cX10_planOf 33 = .ok (.iload_n 2, 1) := by decide +kernel
theorem dX10_planOf_34 : decode cX10_planOf 34 = .ok (.invokevirtual 191, 3) := by decide +kernel
theorem dX10_planOf_37 : decode cX10_planOf 37 = .ok (.istore 7, 2) := by decide +kernel
theorem dX10_planOf_39 : decode cX10_planOf 39 = .ok (.iload 4, 2) := by decide +kernel
theorem dX10_planOf_41 : decode cX10_planOf 41 = .ok (.bipush (-9), 2) := by decide +kernel
theorem dX10_planOf_43 : decode cX10_planOf 43 = .ok (.if_icmp .eq 10, 3) := by decide +kernel
theorem dX10_planOf_46 : decode cX10_planOf 46 = .ok (.iload 7, 2) := by decide +kernel
theorem dX10_planOf_48 : decode cX10_planOf 48 = .ok (.iload 5, 2) := by decide +kernel
theorem dX10_planOf_50 : decode cX10_planOf 50 = .ok (.if_icmp .le 11, 3) := by decide +kernel
theorem dX10_planOf_53 : decode cX10_planOf 53 = .ok (.iload 6, 2) := by decide +kernel
theorem dX10_planOf_55 : decode cX10_planOf 55 = .ok (.istore 4, 2) := by decide +kernel
theorem dX10_planOf_57 : decode cX10_planOf 57 = .ok (.iload 7, 2) := by decide +kernel
theorem dX10_planOf_59 : decode cX10_planOf 59 = .ok (.istore 5, 2) := by decide +kernel
theorem dX10_planOf_61 : decode cX10_planOf 61 = .ok (.iinc 6 1, 3) := by decide +kernel
theorem dX10_planOf_64 : decode cX10_planOf 64 = .ok (.goto (-49), 3) := by decide +kernel
theorem dX10_planOf_67 : decode cX10_planOf 67 = .ok (.iload_n 3, 1) := by decide +kernel
theorem dX10_planOf_68 : decode cX10_planOf 68 = .ok (.iconst (-1), 1) := by decide +kernel
theorem dX10_planOf_69 : decode cX10_planOf 69 = .ok (.if_icmp .ne 6, 3) := by decide +kernel
theorem dX10_planOf_72 : decode cX10_planOf 72 = .ok (.iload 5, 2) := by decide +kernel
theorem dX10_planOf_74 : decode cX10_planOf 74 = .ok (.ireturn, 1) := by decide +kernel
theorem dX10_planOf_75 : decode cX10_planOf 75 = .ok (.aload_n 0, 1) := by decide +kernel
theorem dX10_planOf_76 : decode cX10_planOf 76 = .ok (.iload 4, 2) := by decide +kernel
theorem dX10_planOf_78 : decode cX10_planOf 78 = .ok (.iload_n 2, 1) := by decide +kernel
theorem dX10_planOf_79 : decode cX10_planOf 79 = .ok (.invokevirtual 187, 3) := by decide +kernel
theorem dX10_planOf_82 : decode cX10_planOf 82 = .ok (.iload_n 3, 1) := by decide +kernel
theorem dX10_planOf_83 : decode cX10_planOf 83 = .ok (.iload_n 2, 1) := by decide +kernel
theorem dX10_planOf_84 : decode cX10_planOf 84 = .ok (.if_icmp .ge 12, 3) := by decide +kernel
theorem dX10_planOf_87 : decode cX10_planOf 87 = .ok (.aload_n 0, 1) := by decide +kernel
theorem dX10_planOf_88 : decode cX10_planOf 88 = .ok (.getfield 46, 3) := by decide +kernel
theorem dX10_planOf_91 : decode cX10_planOf 91 = .ok (.iload_n 3, 1) := by decide +kernel
theorem dX10_planOf_92 : decode cX10_planOf 92 = .ok (.iaload, 1) := by decide +kernel
theorem dX10_planOf_93 : decode cX10_planOf 93 = .ok (.goto 5, 3) := by decide +kernel
theorem dX10_planOf_96 : decode cX10_planOf 96 = .ok (.bipush (-9), 2) := by decide +kernel
theorem dX10_planOf_98 : decode cX10_planOf 98 = .ok (.ireturn, 1) := by decide +kernel
theorem dX10_canGive_0 : decode cX10_canGive 0 = .ok (.iload_n 1, 1) := by decide +kernel
theorem dX10_canGive_1 : decode cX10_canGive 1 = .ok (.istore_n 2, 1) := by decide +kernel
theorem dX10_canGive_2 : decode cX10_canGive 2 = .ok (.iconst 2, 1) := by decide +kernel
theorem dX10_canGive_3 : decode cX10_canGive 3 = .ok (.istore_n 3, 1) := by decide +kernel
theorem dX10_canGive_4 : decode cX10_canGive 4 = .ok (.iload_n 3, 1) := by decide +kernel
theorem dX10_canGive_5 : decode cX10_canGive 5 = .ok (.ifCond .lt 32, 3) := by decide +kernel
theorem dX10_canGive_8 : decode cX10_canGive 8 = .ok (.aload_n 0, 1) := by decide +kernel
theorem dX10_canGive_9 : decode cX10_canGive 9 = .ok (.getfield 52, 3) := by decide +kernel
theorem dX10_canGive_12 : decode cX10_canGive 12 = .ok (.iload_n 3, 1) := by decide +kernel
theorem dX10_canGive_13 : decode cX10_canGive 13 = .ok (.iload_n 2, 1) := by decide +kernel
theorem dX10_canGive_14 : decode cX10_canGive 14 = .ok (.aload_n 0, 1) := by decide +kernel
theorem dX10_canGive_15 : decode cX10_canGive 15 = .ok (.getfield 77, 3) := by decide +kernel
theorem dX10_canGive_18 : decode cX10_canGive 18 = .ok (.iconst 1, 1) := by decide +kernel
theorem dX10_canGive_19 : decode cX10_canGive 19 = .ok (.iadd, 1) := by decide +kernel
theorem dX10_canGive_20 : decode cX10_canGive 20 = .ok (.irem, 1) := by decide +kernel
theorem dX10_canGive_21 : decode cX10_canGive 21 = .ok (.iastore, 1) := by decide +kernel
theorem dX10_canGive_22 : decode cX10_canGive 22 = .ok (.iload_n 2, 1) := by decide +kernel
theorem dX10_canGive_23 : decode cX10_canGive 23 = .ok (.aload_n 0, 1) := by decide +kernel
theorem dX10_canGive_24 : decode cX10_canGive 24 = .ok (.getfield 77, 3) := by decide +kernel
theorem dX10_canGive_27 : decode cX10_canGive 27 = .ok (.iconst 1, 1) := by decide +kernel
theorem dX10_canGive_28 : decode cX10_canGive 28 = .ok (.iadd, 1) := by decide +kernel
theorem dX10_canGive_29 : decode cX10_canGive 29 = .ok (.idiv, 1) := by decide +kernel
theorem dX10_canGive_30 : decode cX10_canGive 30 = .ok (.istore_n 2, 1) := by decide +kernel
theorem dX10_canGive_31 : decode cX10_canGive 31 = .ok (.iinc 3 (-1), 3) := by decide +kernel
theorem dX10_canGive_34 : decode cX10_canGive 34 = .ok (.goto (-30), 3) := by decide +kernel
theorem dX10_canGive_37 : decode cX10_canGive 37 = .ok (.iconst 0, 1) := by decide +kernel
theorem dX10_canGive_38 : decode cX10_canGive 38 = .ok (.istore_n 3, 1) := by decide +kernel
theorem dX10_canGive_39 : decode cX10_canGive 39 = .ok (.iload_n 3, 1) := by decide +kernel
theorem dX10_canGive_40 : decode cX10_canGive 40 = .ok (.iconst 3, 1) := by decide +kernel
theorem dX10_canGive_41 : decode cX10_canGive 41 = .ok (.if_icmp .ge 55, 3) := by decide +kernel
theorem dX10_canGive_44 : decode cX10_canGive 44 = .ok (.iconst 0, 1) := by decide +kernel
theorem dX10_canGive_45 : decode cX10_canGive 45 = .ok (.istore 4, 2) := by decide +kernel
theorem dX10_canGive_47 : decode cX10_canGive 47 = .ok (.iload 4, 2) := by decide +kernel
theorem dX10_canGive_49 : decode cX10_canGive 49 = .ok (.iload_n 3, 1) := by decide +kernel
theorem dX10_canGive_50 : decode cX10_canGive 50 = .ok (.if_icmp .ge 40, 3) := by decide +kernel
theorem dX10_canGive_53 : decode cX10_canGive 53 = .ok (.aload_n 0, 1) := by decide +kernel
theorem dX10_canGive_54 : decode cX10_canGive 54 = .ok (.getfield 52, 3) := by decide +kernel
theorem dX10_canGive_57 : decode cX10_canGive 57 = .ok (.iload_n 3, 1) := by decide +kernel
theorem dX10_canGive_58 : decode cX10_canGive 58 = .ok (.iaload, 1) := by decide +kernel
theorem dX10_canGive_59 : decode cX10_canGive 59 = .ok (.aload_n 0, 1) := by decide +kernel
theorem dX10_canGive_60 : decode cX10_canGive 60 = .ok (.getfield 52, 3) := by decide +kernel
theorem dX10_canGive_63 : decode cX10_canGive 63 = .ok (.iload 4, 2) := by decide +kernel
theorem dX10_canGive_65 : decode cX10_canGive 65 = .ok (.iaload, 1) := by decide +kernel
theorem dX10_canGive_66 : decode cX10_canGive 66 = .ok (.if_icmp .ne 18, 3) := by decide +kernel
theorem dX10_canGive_69 : decode cX10_canGive 69 = .ok (.aload_n 0, 1) := by decide +kernel
theorem dX10_canGive_70 : decode cX10_canGive 70 = .ok (.getfield 52, 3) := by decide +kernel
theorem dX10_canGive_73 : decode cX10_canGive 73 = .ok (.iload_n 3, 1) := by decide +kernel
theorem dX10_canGive_74 : decode cX10_canGive 74 = .ok (.iaload, 1) := by decide +kernel
theorem dX10_canGive_75 : decode cX10_canGive 75 = .ok (.aload_n 0, 1) := by decide +kernel
theorem dX10_canGive_76 : decode cX10_canGive 76 = .ok (.getfield 77, 3) := by decide +kernel
theorem dX10_canGive_79 : decode cX10_canGive 79 = .ok (.if_icmp .ge 5, 3) := by decide +kernel
theorem dX10_canGive_82 : decode cX10_canGive 82 = .ok (.iconst 0, 1) := by decide +kernel
theorem dX10_canGive_83 : decode cX10_canGive 83 = .ok (.ireturn, 1) := by decide +kernel
theorem dX10_canGive_84 : decode cX10_canGive 84 = .ok (.iinc 4 1, 3) := by decide +kernel
theorem dX10_canGive_87 : decode cX10_canGive 87 = .ok (.goto (-40), 3) := by decide +kernel
theorem dX10_canGive_90 : decode cX10_canGive 90 = .ok (.iinc 3 1, 3) := by decide +kernel
theorem dX10_canGive_93 : decode cX10_canGive 93 = .ok (.goto (-54), 3) := by decide +kernel
theorem dX10_canGive_96 : decode cX10_canGive 96 = .ok (.iconst 1, 1) := by decide +kernel
theorem dX10_canGive_97 : decode cX10_canGive 97 = .ok (.ireturn, 1) := by decide +kernel
set_option maxRecDepth 20000 in
theorem ggX10_tryGiven_X10_bringsOf : GoodIn wsX10_tryGiven wsX10_bringsOf := goodIn_r _ [10, 11, 12, 13, 14, 9, 15, 16, 17, 18, 19, 20, 21, 22, 23, 24, 25, 26, 27, 28, 29, 30, 31, 32, 33, 34, 35, 36, 37, 38, 39, 40, 41, 42, 43, 44, 45, 46, 47, 48, 49, 50, 51, 52, 53] (by decide +kernel) (by decide +kernel)
set_option maxRecDepth 20000 in
theorem gX10_tryGiven_X10_bringsOf : GoodIn wsX10_tryGiven (wsV RX10 142 RX10 yX10_bringsOf wsX10_bringsOf) := goodIn_app (goodIn_of _ (by decide +kernel)) ggX10_tryGiven_X10_bringsOf
theorem dX10_tryGiven_0 : decode cX10_tryGiven 0 = .ok (.iconst 0, 1) := by decide +kernel
theorem dX10_tryGiven_1 : decode cX10_tryGiven 1 = .ok (.istore_n 1, 1) := by decide +kernel
theorem dX10_tryGiven_2 : decode cX10_tryGiven 2 = .ok (.iconst 0, 1) := by decide +kernel
theorem dX10_tryGiven_3 : decode cX10_tryGiven 3 = .ok (.istore_n 2, 1) := by decide +kernel
theorem dX10_tryGiven_4 : decode cX10_tryGiven 4 = .ok (.iconst 0, 1) := by decide +kernel
theorem dX10_tryGiven_5 : decode cX10_tryGiven 5 = .ok (.istore_n 3, 1) := by decide +kernel
theorem dX10_tryGiven_6 : decode cX10_tryGiven 6 = .ok (.iload_n 3, 1) := by decide +kernel
theorem dX10_tryGiven_7 : decode cX10_tryGiven 7 = .ok (.iconst 3, 1) := by decide +kernel
theorem dX10_tryGiven_8 : decode cX10_tryGiven 8 = .ok (.if_icmp .ge 61, 3) := by decide +kernel
theorem dX10_tryGiven_11 : decode cX10_tryGiven 11 = .ok (.iload_n 1, 1) := by decide +kernel
theorem dX10_tryGiven_12 : decode cX10_tryGiven 12 = .ok (.aload_n 0, 1) := by decide +kernel
theorem dX10_tryGiven_13 : decode cX10_tryGiven 13 = .ok (.getfield 52, 3) := by decide +kernel
theorem dX10_tryGiven_16 : decode cX10_tryGiven 16 = .ok (.iload_n 3, 1) := by decide +kernel
theorem dX10_tryGiven_17 : decode cX10_tryGiven 17 = .ok (.iaload, 1) := by decide +kernel
theorem dX10_tryGiven_18 : decode cX10_tryGiven 18 = .ok (.aload_n 0, 1) := by decide +kernel
theorem dX10_tryGiven_19 : decode cX10_tryGiven 19 = .ok (.getfield 77, 3) := by decide +kernel
theorem dX10_tryGiven_22 : decode cX10_tryGiven 22 = .ok (.if_icmp .ge 7, 3) := by decide +kernel
theorem dX10_tryGiven_25 : decode cX10_tryGiven 25 = .ok (.iconst 1, 1) := by decide +kernel
theorem dX10_tryGiven_26 : decode cX10_tryGiven 26 = .ok (.goto 4, 3) := by decide +kernel
theorem dX10_tryGiven_29 : decode cX10_tryGiven 29 = .ok (.iconst 0, 1) := by decide +kernel
theorem dX10_tryGiven_30 : decode cX10_tryGiven 30 = .ok (.iadd, 1) := by decide +kernel
theorem dX10_tryGiven_31 : decode cX10_tryGiven 31 = .ok (.istore_n 1, 1) := by decide +kernel
theorem dX10_tryGiven_32 : decode cX10_tryGiven 32 = .ok (.iload_n 2, 1) := by decide +kernel
theorem dX10_tryGiven_33 : decode cX10_tryGiven 33 = .ok (.aload_n 0, 1) := by decide +kernel
theorem dX10_tryGiven_34 : decode cX10_tryGiven 34 = .ok (.getfield 52, 3) := by decide +kernel
theorem dX10_tryGiven_37 : decode cX10_tryGiven 37 = .ok (.iload_n 3, 1) := by decide +kernel
theorem dX10_tryGiven_38 : decode cX10_tryGiven 38 = .ok (.iaload, 1) := by decide +kernel
theorem dX10_tryGiven_39 : decode cX10_tryGiven 39 = .ok (.aload_n 0, 1) := by decide +kernel
theorem dX10_tryGiven_40 : decode cX10_tryGiven 40 = .ok (.getfield 77, 3) := by decide +kernel
theorem dX10_tryGiven_43 : decode cX10_tryGiven 43 = .ok (.if_icmp .ge 17, 3) := by decide +kernel
theorem dX10_tryGiven_46 : decode cX10_tryGiven 46 = .ok (.aload_n 0, 1) := by decide +kernel
theorem dX10_tryGiven_47 : decode cX10_tryGiven 47 = .ok (.aload_n 0, 1) := by decide +kernel
theorem dX10_tryGiven_48 : decode cX10_tryGiven 48 = .ok (.getfield 52, 3) := by decide +kernel
theorem dX10_tryGiven_51 : decode cX10_tryGiven 51 = .ok (.iload_n 3, 1) := by decide +kernel
theorem dX10_tryGiven_52 : decode cX10_tryGiven 52 = .ok (.iaload, 1) := by decide +kernel
theorem dX10_tryGiven_53 : decode cX10_tryGiven 53 = .ok (.iload_n 3, 1) := by decide +kernel
theorem dX10_tryGiven_54 : decode cX10_tryGiven 54 = .ok (.invokevirtual 142, 3) := by decide +kernel
theorem dX10_tryGiven_57 : decode cX10_tryGiven 57 = .ok (.goto 4, 3) := by decide +kernel
theorem dX10_tryGiven_60 : decode cX10_tryGiven 60 = .ok (.iconst 0, 1) := by decide +kernel
theorem dX10_tryGiven_61 : decode cX10_tryGiven 61 = .ok (.iadd, 1) := by decide +kernel
theorem dX10_tryGiven_62 : decode cX10_tryGiven 62 = .ok (.istore_n 2, 1) := by decide +kernel
theorem dX10_tryGiven_63 : decode cX10_tryGiven 63 = .ok (.iinc 3 1, 3) := by decide +kernel
theorem dX10_tryGiven_66 : decode cX10_tryGiven 66 = .ok (.goto (-60), 3) := by decide +kernel
theorem dX10_tryGiven_69 : decode cX10_tryGiven 69 = .ok (.iload_n 1, 1) := by decide +kernel
theorem dX10_tryGiven_70 : decode cX10_tryGiven 70 = .ok (.aload_n 0, 1) := by decide +kernel
theorem dX10_tryGiven_71 : decode cX10_tryGiven 71 = .ok (.getfield 194, 3) := by decide +kernel
theorem dX10_tryGiven_74 : decode cX10_tryGiven 74 = .ok (.if_icmp .gt 19, 3) := by decide +kernel
theorem dX10_tryGiven_77 : decode cX10_tryGiven 77 = .ok (.iload_n 1, 1) := by decide +kernel
theorem dX10_tryGiven_78 : decode cX10_tryGiven 78 = .ok (.aload_n 0, 1) := by decide +kernel
theorem dX10_tryGiven_79 : decode cX10_tryGiven 79 = .ok (.getfield 194, 3) := by decide +kernel
theorem dX10_tryGiven_82 : decode cX10_tryGiven 82 = .ok (.if_icmp .ne 46, 3) := by decide +kernel
theorem dX10_tryGiven_85 : decode cX10_tryGiven 85 = .ok (.iload_n 2, 1) := by decide +kernel
theorem dX10_tryGiven_86 : decode cX10_tryGiven 86 = .ok (.aload_n 0, 1) := by decide +kernel
theorem dX10_tryGiven_87 : decode cX10_tryGiven 87 = .ok (.getfield 197, 3) := by decide +kernel
theorem dX10_tryGiven_90 : decode cX10_tryGiven 90 = .ok (.if_icmp .le 38, 3) := by decide +kernel
theorem dX10_tryGiven_93 : decode cX10_tryGiven 93 = .ok (.aload_n 0, 1) := by decide +kernel
theorem dX10_tryGiven_94 : decode cX10_tryGiven 94 = .ok (.iload_n 1, 1) := by decide +kernel
theorem dX10_tryGiven_95 : decode cX10_tryGiven 95 = .ok (.putfield 194, 3) := by decide +kernel
theorem dX10_tryGiven_98 : decode cX10_tryGiven 98 = .ok (.aload_n 0, 1) := by decide +kernel
theorem dX10_tryGiven_99 : decode cX10_tryGiven 99 = .ok (.iload_n 2, 1) := by decide +kernel
theorem dX10_tryGiven_100 : decode cX10_tryGiven 100 = .ok (.putfield 197, 3) := by decide +kernel
theorem dX10_tryGiven_103 : decode cX10_tryGiven 103 = .ok (.iconst 0, 1) := by decide +kernel
theorem dX10_tryGiven_104 : decode cX10_tryGiven 104 = .ok (.istore_n 3, 1) := by decide +kernel
theorem dX10_tryGiven_105 : decode cX10_tryGiven 105 = .ok (.iload_n 3, 1) := by decide +kernel
theorem dX10_tryGiven_106 : decode cX10_tryGiven 106 = .ok (.iconst 3, 1) := by decide +kernel
theorem dX10_tryGiven_107 : decode cX10_tryGiven 107 = .ok (.if_icmp .ge 21, 3) := by decide +kernel
theorem dX10_tryGiven_110 : decode cX10_tryGiven 110 = .ok (.aload_n 0, 1) := by decide +kernel
theorem dX10_tryGiven_111 : decode cX10_tryGiven 111 = .ok (.getfield 55, 3) := by decide +kernel
theorem dX10_tryGiven_114 : decode cX10_tryGiven 114 = .ok (.iload_n 3, 1) := by decide +kernel
theorem dX10_tryGiven_115 : decode cX10_tryGiven 115 = .ok (.aload_n 0, 1) := by decide +kernel
theorem dX10_tryGiven_116 : decode cX10_tryGiven 116 = .ok (.getfield 52, 3) := by decide +kernel
theorem dX10_tryGiven_119 : decode cX10_tryGiven 119 = .ok (.iload_n 3, 1) := by decide +kernel
theorem dX10_tryGiven_120 : decode cX10_tryGiven 120 = .ok (.iaload, 1) := by decide +kernel
theorem dX10_tryGiven_121 : decode cX10_tryGiven 121 = .ok (.iastore, 1) := by decide +kernel
theorem dX10_tryGiven_122 : decode cX10_tryGiven 122 = .ok (.iinc 3 1, 3) := by decide +kernel
theorem dX10_tryGiven_125 : decode cX10_tryGiven 125 = .ok (.goto (-20), 3) := by decide +kernel
theorem dX10_tryGiven_128 : decode cX10_tryGiven 128 = .ok (.return_, 1) := by decide +kernel
set_option maxRecDepth 20000 in
theorem ggX10_best_X10_within : GoodIn wsX10_best wsX10_within := goodIn_r _ [8] (by decide +kernel) (by decide +kernel)
set_option maxRecDepth 20000 in
theorem gX10_best_X10_within : GoodIn wsX10_best (va_wsS RX10 73 yX10_within wsX10_within) := goodIn_app (goodIn_of _ (by decide +kernel)) ggX10_best_X10_within
set_option maxRecDepth 20000 in
theorem ggX10_best_X10_canGive : GoodIn wsX10_best wsX10_canGive := goodIn_r _ [12, 13, 1, 33, 34, 35, 36, 37, 38, 39, 40, 41, 42, 43, 44, 45, 46, 47, 48, 49, 50, 51, 52, 53, 54, 55, 56, 57, 58, 59, 60, 61, 62, 63, 64] (by decide +kernel) (by decide +kernel)
set_option maxRecDepth 20000 in
theorem gX10_best_X10_canGive : GoodIn wsX10_best (wsV RX10 200 RX10 yX10_canGive wsX10_canGive) := goodIn_app (goodIn_of _ (by decide +kernel)) ggX10_best_X10_canGive
set_option maxRecDepth 20000 in
theorem ggX10_best_X10_tryGiven : GoodIn wsX10_best wsX10_tryGiven := goodIn_r _ [17, 13, 1, 2, 3, 4, 18, 19, 20, 7, 21, 22, 23, 24, 25, 26, 27, 28, 29, 30, 31, 32, 33, 34, 35, 36, 37, 38, 39, 40, 41, 42, 43, 44, 45, 46, 47, 48, 49, 50, 51, 52, 53, 54, 55, 56, 57, 58, 59, 60, 61, 62, 63, 64] (by decide +kernel) (by decide +kernel)
set_option maxRecDepth 20000 in
theorem gX10_best_X10_tryGiven : GoodIn wsX10_best (wsV RX10 203 RX10 yX10_tryGiven wsX10_tryGiven) := goodIn_app (goodIn_of _ (by decide +kernel)) ggX10_best_X10_tryGiven
theorem dX10_best_0 : decode cX10_best 0 = .ok (.iload_n 1, 1) := by decide +kernel
theorem dX10_best_1 : decode cX10_best 1 = .ok (.iconst (-1), 1) := by decide +kernel
theorem dX10_best_2 : decode cX10_best 2 = .ok (.iconst 2, 1) := by decide +kernel
theorem dX10_best_3 : decode cX10_best 3 = .ok (.invokestatic 73, 3) := by decide +kernel
theorem dX10_best_6 : decode cX10_best 6 = .ok (.ifCond .ne 6, 3) := by decide +kernel
theorem dX10_best_9 : decode cX10_best 9 = .ok (.bipush (-2), 2) := by decide +kernel
theorem dX10_best_11 : decode cX10_best 11 = .ok (.ireturn, 1) := by decide +kernel
theorem dX10_best_12 : decode cX10_best 12 = .ok (.aload_n 0, 1) := by decide +kernel
theorem dX10_best_13 : decode cX10_best 13 = .ok (.getfield 77, 3) := by decide +kernel
theorem dX10_best_16 : decode cX10_best 16 = .ok (.ifCond .ne 6, 3) := by decide +kernel
theorem dX10_best_19 : decode cX10_best 19 = .ok (.bipush (-3), 2) := by decide +kernel
theorem dX10_best_21 : decode cX10_best 21 = .ok (.ireturn, 1) := by decide +kernel
theorem dX10_best_22 : decode cX10_best 22 = .ok (.aload_n 0, 1) := by decide +kernel
theorem dX10_best_23 : decode cX10_best 23 = .ok (.bipush (-9), 2) := by decide +kernel
theorem dX10_best_25 : decode cX10_best 25 = .ok (.putfield 194, 3) := by decide +kernel
theorem dX10_best_28 : decode cX10_best 28 = .ok (.aload_n 0, 1) := by decide +kernel
theorem dX10_best_29 : decode cX10_best 29 = .ok (.iconst 0, 1) := by decide +kernel
theorem dX10_best_30 : decode cX10_best 30 = .ok (.putfield 197, 3) := by decide +kernel
theorem dX10_best_33 : decode cX10_best 33 = .ok (.aload_n 0, 1) := by decide +kernel
theorem dX10_best_34 : decode cX10_best 34 = .ok (.getfield 77, 3) := by decide +kernel
theorem dX10_best_37 : decode cX10_best 37 = .ok (.iconst 1, 1) := by decide +kernel
theorem dX10_best_38 : decode cX10_best 38 = .ok (.iadd, 1) := by decide +kernel
theorem dX10_best_39 : decode cX10_best 39 = .ok (.aload_n 0, 1) := by decide +kernel
theorem dX10_best_40 : decode cX10_best 40 = .ok (.getfield 77, 3) := by decide +kernel
theorem dX10_best_43 : decode cX10_best 43 = .ok (.iconst 1, 1) := by decide +kernel
theorem dX10_best_44 : decode cX10_best 44 = .ok (.iadd, 1) := by decide +kernel
theorem dX10_best_45 : decode cX10_best 45 = .ok (.imul, 1) := by decide +kernel
theorem dX10_best_46 : decode cX10_best 46 = .ok (.aload_n 0, 1) := by decide +kernel
theorem dX10_best_47 : decode cX10_best 47 = .ok (.getfield 77, 3) := by decide +kernel
theorem dX10_best_50 : decode cX10_best 50 = .ok (.iconst 1, 1) := by decide +kernel
theorem dX10_best_51 : decode cX10_best 51 = .ok (.iadd, 1) := by decide +kernel
theorem dX10_best_52 : decode cX10_best 52 = .ok (.imul, 1) := by decide +kernel
theorem dX10_best_53 : decode cX10_best 53 = .ok (.istore_n 2, 1) := by decide +kernel
theorem dX10_best_54 : decode cX10_best 54 = .ok (.iconst 0, 1) := by decide +kernel
theorem dX10_best_55 : decode cX10_best 55 = .ok (.istore_n 3, 1) := by decide +kernel
theorem dX10_best_56 : decode cX10_best 56 = .ok (.iload_n 3, 1) := by decide +kernel
theorem dX10_best_57 : decode cX10_best 57 = .ok (.iload_n 2, 1) := by decide +kernel
theorem dX10_best_58 : decode cX10_best 58 = .ok (.if_icmp .ge 21, 3) := by decide +kernel
theorem dX10_best_61 : decode cX10_best 61 = .ok (.aload_n 0, 1) := by decide +kernel
theorem dX10_best_62 : decode cX10_best 62 = .ok (.iload_n 3, 1) := by decide +kernel
theorem dX10_best_63 : decode cX10_best 63 = .ok (.invokevirtual 200, 3) := by decide +kernel
theorem dX10_best_66 : decode cX10_best 66 = .ok (.ifCond .eq 7, 3) := by decide +kernel
theorem dX10_best_69 : decode cX10_best 69 = .ok (.aload_n 0, 1) := by decide +kernel
theorem dX10_best_70 : decode cX10_best 70 = .ok (.invokevirtual 203, 3) := by decide +kernel
theorem dX10_best_73 : decode cX10_best 73 = .ok (.iinc 3 1, 3) := by decide +kernel
theorem dX10_best_76 : decode cX10_best 76 = .ok (.goto (-20), 3) := by decide +kernel
theorem dX10_best_79 : decode cX10_best 79 = .ok (.iload_n 1, 1) := by decide +kernel
theorem dX10_best_80 : decode cX10_best 80 = .ok (.iconst (-1), 1) := by decide +kernel
theorem dX10_best_81 : decode cX10_best 81 = .ok (.if_icmp .ne 8, 3) := by decide +kernel
theorem dX10_best_84 : decode cX10_best 84 = .ok (.aload_n 0, 1) := by decide +kernel
theorem dX10_best_85 : decode cX10_best 85 = .ok (.getfield 197, 3) := by decide +kernel
theorem dX10_best_88 : decode cX10_best 88 = .ok (.ireturn, 1) := by decide +kernel
theorem dX10_best_89 : decode cX10_best 89 = .ok (.aload_n 0, 1) := by decide +kernel
theorem dX10_best_90 : decode cX10_best 90 = .ok (.getfield 55, 3) := by decide +kernel
theorem dX10_best_93 : decode cX10_best 93 = .ok (.iload_n 1, 1) := by decide +kernel
theorem dX10_best_94 : decode cX10_best 94 = .ok (.iaload, 1) := by decide +kernel
theorem dX10_best_95 : decode cX10_best 95 = .ok (.aload_n 0, 1) := by decide +kernel
theorem dX10_best_96 : decode cX10_best 96 = .ok (.getfield 77, 3) := by decide +kernel
theorem dX10_best_99 : decode cX10_best 99 = .ok (.if_icmp .ge 12, 3) := by decide +kernel
theorem dX10_best_102 : decode cX10_best 102 = .ok (.aload_n 0, 1) := by decide +kernel
theorem dX10_best_103 : decode cX10_best 103 = .ok (.getfield 55, 3) := by decide +kernel
theorem dX10_best_106 : decode cX10_best 106 = .ok (.iload_n 1, 1) := by decide +kernel
theorem dX10_best_107 : decode cX10_best 107 = .ok (.iaload, 1) := by decide +kernel
theorem dX10_best_108 : decode cX10_best 108 = .ok (.goto 5, 3) := by decide +kernel
theorem dX10_best_111 : decode cX10_best 111 = .ok (.bipush (-9), 2) := by decide +kernel
theorem dX10_best_113 : decode cX10_best 113 = .ok (.ireturn, 1) := by decide +kernel
set_option maxRecDepth 20000 in
theorem ggX10_reading_X10_isPerson : GoodIn wsX10_reading wsX10_isPerson := goodIn_r _ [9, 10, 18, 19, 20, 21, 22, 23, 24, 25, 26, 27, 28, 29, 30, 31, 32, 33, 34, 35, 36, 37, 38, 39, 40, 41, 42, 43, 44, 45, 46, 47, 48, 49] (by decide +kernel) (by decide +kernel)
set_option maxRecDepth 20000 in
theorem gX10_reading_X10_isPerson : GoodIn wsX10_reading (wsV RX10 133 RX10 yX10_isPerson wsX10_isPerson) := goodIn_app (goodIn_of _ (by decide +kernel)) ggX10_reading_X10_isPerson
set_option maxRecDepth 20000 in
theorem ggX10_reading_X10_isMatter : GoodIn wsX10_reading wsX10_isMatter := goodIn_r _ [14, 10, 18, 19, 20, 21, 22, 23, 24, 25, 26, 27, 28, 29, 30, 31, 32, 33, 34, 35, 36, 37, 38, 39, 40, 41, 42, 43, 44, 45, 46, 47, 48, 49] (by decide +kernel) (by decide +kernel)
set_option maxRecDepth 20000 in
theorem gX10_reading_X10_isMatter : GoodIn wsX10_reading (wsV RX10 139 RX10 yX10_isMatter wsX10_isMatter) := goodIn_app (goodIn_of _ (by decide +kernel)) ggX10_reading_X10_isMatter
set_option maxRecDepth 20000 in
theorem ggX10_reading_X10_within : GoodIn wsX10_reading wsX10_within := goodIn_r _ [17] (by decide +kernel) (by decide +kernel)
set_option maxRecDepth 20000 in
theorem gX10_reading_X10_within : GoodIn wsX10_reading (va_wsS RX10 73 yX10_within wsX10_within) := goodIn_app (goodIn_of _ (by decide +kernel)) ggX10_reading_X10_within
theorem dX10_reading_0 : decode cX10_reading 0 = .ok (.aload_n 0, 1) := by decide +kernel
theorem dX10_reading_1 : decode cX10_reading 1 = .ok (.iload_n 1, 1) := by decide +kernel
theorem dX10_reading_2 : decode cX10_reading 2 = .ok (.invokevirtual 133, 3) := by decide +kernel
theorem dX10_reading_5 : decode cX10_reading 5 = .ok (.ifCond .eq 11, 3) := by decide +kernel
theorem dX10_reading_8 : decode cX10_reading 8 = .ok (.aload_n 0, 1) := by decide +kernel
theorem dX10_reading_9 : decode cX10_reading 9 = .ok (.iload_n 2, 1) := by decide +kernel
theorem dX10_reading_10 : decode cX10_reading 10 = .ok (.invokevirtual 139, 3) := by decide +kernel
theorem dX10_reading_13 : decode cX10_reading 13 = .ok (.ifCond .ne 5, 3) := by decide +kernel
theorem dX10_reading_16 : decode cX10_reading 16 = .ok (.iconst (-1), 1) := by decide +kernel
theorem dX10_reading_17 : decode cX10_reading 17 = .ok (.ireturn, 1) := by decide +kernel
theorem dX10_reading_18 : decode cX10_reading 18 = .ok (.iload_n 3, 1) := by decide +kernel
theorem dX10_reading_19 : decode cX10_reading 19 = .ok (.iconst 0, 1) := by decide +kernel
theorem dX10_reading_20 : decode cX10_reading 20 = .ok (.sipush 200, 3) := by decide +kernel
theorem dX10_reading_23 : decode cX10_reading 23 = .ok (.invokestatic 73, 3) := by decide +kernel
theorem dX10_reading_26 : decode cX10_reading 26 = .ok (.ifCond .ne 6, 3) := by decide +kernel
theorem dX10_reading_29 : decode cX10_reading 29 = .ok (.bipush (-2), 2) := by decide +kernel
theorem dX10_reading_31 : decode cX10_reading 31 = .ok (.ireturn, 1) := by decide +kernel
theorem dX10_reading_32 : decode cX10_reading 32 = .ok (.aload_n 0, 1) := by decide +kernel
theorem dX10_reading_33 : decode cX10_reading 33 = .ok (.getfield 113, 3) := by decide +kernel
theorem dX10_reading_36 : decode cX10_reading 36 = .ok (.bipush 8, 2) := by decide +kernel
theorem dX10_reading_38 : decode cX10_reading 38 = .ok (.if_icmp .ne 6, 3) := by decide +kernel
theorem dX10_reading_41 : decode cX10_reading 41 = .ok (.bipush (-4), 2) := by decide +kernel
theorem dX10_reading_43 : decode cX10_reading 43 = .ok (.ireturn, 1) := by decide +kernel
theorem dX10_reading_44 : decode cX10_reading 44 = .ok (.aload_n 0, 1) := by decide +kernel
theorem dX10_reading_45 : decode cX10_reading 45 = .ok (.getfield 58, 3) := by decide +kernel
theorem dX10_reading_48 : decode cX10_reading 48 = .ok (.aload_n 0, 1) := by decide +kernel
theorem dX10_reading_49 : decode cX10_reading 49 = .ok (.getfield 113, 3) := by decide +kernel
theorem dX10_reading_52 : decode cX10_reading 52 = .ok (.iload_n 1, 1) := by decide +kernel
theorem dX10_reading_53 : decode cX10_reading 53 = .ok (.iastore, 1) := by decide +kernel
theorem dX10_reading_54 : decode cX10_reading 54 = .ok (.aload_n 0, 1) := by decide +kernel
theorem dX10_reading_55 : decode cX10_reading 55 = .ok (.getfield 61, 3) := by decide +kernel
theorem dX10_reading_58 : decode cX10_reading 58 = .ok (.aload_n 0, 1) := by decide +kernel
theorem dX10_reading_59 : decode cX10_reading 59 = .ok (.getfield 113, 3) := by decide +kernel
theorem dX10_reading_62 : decode cX10_reading 62 = .ok (.iload_n 2, 1) := by decide +kernel
theorem dX10_reading_63 : decode cX10_reading 63 = .ok (.iastore, 1) := by decide +kernel
theorem dX10_reading_64 : decode cX10_reading 64 = .ok (.aload_n 0, 1) := by decide +kernel
theorem dX10_reading_65 : decode cX10_reading 65 = .ok (.getfield 64, 3) := by decide +kernel
theorem dX10_reading_68 : decode cX10_reading 68 = .ok (.aload_n 0, 1) := by decide +kernel
theorem dX10_reading_69 : decode cX10_reading 69 = .ok (.getfield 113, 3) := by decide +kernel
theorem dX10_reading_72 : decode cX10_reading 72 = .ok (.iload_n 3, 1) := by decide +kernel
theorem dX10_reading_73 : decode cX10_reading 73 = .ok (.iastore, 1) := by decide +kernel
theorem dX10_reading_74 : decode cX10_reading 74 = .ok (.aload_n 0, 1) := by decide +kernel
theorem dX10_reading_75 : decode cX10_reading 75 = .ok (.dup, 1) := by decide +kernel
theorem dX10_reading_76 : decode cX10_reading 76 = .ok (.getfield 113, 3) := by decide +kernel
theorem dX10_reading_79 : decode cX10_reading 79 = .ok (.iconst 1, 1) := by decide +kernel
theorem dX10_reading_80 : decode cX10_reading 80 = .ok (.iadd, 1) := by decide +kernel
theorem dX10_reading_81 : decode cX10_reading 81 = .ok (.putfield 113, 3) := by decide +kernel
theorem dX10_reading_84 : decode cX10_reading 84 = .ok (.aload_n 0, 1) := by decide +kernel
theorem dX10_reading_85 : decode cX10_reading 85 = .ok (.getfield 113, 3) := by decide +kernel
theorem dX10_reading_88 : decode cX10_reading 88 = .ok (.iconst 1, 1) := by decide +kernel
theorem dX10_reading_89 : decode cX10_reading 89 = .ok (.isub, 1) := by decide +kernel
theorem dX10_reading_90 : decode cX10_reading 90 = .ok (.ireturn, 1) := by decide +kernel
set_option maxRecDepth 20000 in
theorem ggX10_back_X10_within : GoodIn wsX10_back wsX10_within := goodIn_r _ [5] (by decide +kernel) (by decide +kernel)
set_option maxRecDepth 20000 in
theorem gX10_back_X10_within : GoodIn wsX10_back (va_wsS RX10 73 yX10_within wsX10_within) := goodIn_app (goodIn_of _ (by decide +kernel)) ggX10_back_X10_within
theorem dX10_back_0 : decode cX10_back 0 = .ok (.iload_n 1, 1) := by decide +kernel
theorem dX10_back_1 : decode cX10_back 1 = .ok (.iconst 0, 1) := by decide +kernel
theorem dX10_back_2 : decode cX10_back 2 = .ok (.aload_n 0, 1) := by decide +kernel
theorem dX10_back_3 : decode cX10_back 3 = .ok (.getfield 113, 3) := by decide +kernel
theorem dX10_back_6 : decode cX10_back 6 = .ok (.invokestatic 73, 3) := by decide +kernel
theorem dX10_back_9 : decode cX10_back 9 = .ok (.ifCond .ne 6, 3) := by decide +kernel
theorem dX10_back_12 : decode cX10_back 12 = .ok (.bipush (-2), 2) := by decide +kernel
theorem dX10_back_14 : decode cX10_back 14 = .ok (.ireturn, 1) := by decide +kernel
theorem dX10_back_15 : decode cX10_back 15 = .ok (.aload_n 0, 1) := by decide +kernel
theorem dX10_back_16 : decode cX10_back 16 = .ok (.dup, 1) := by decide +kernel
theorem dX10_back_17 : decode cX10_back 17 = .ok (.getfield 113, 3) := by decide +kernel
theorem dX10_back_20 : decode cX10_back 20 = .ok (.iload_n 1, 1) := by decide +kernel
theorem dX10_back_21 : decode cX10_back 21 = .ok (.isub, 1) := by decide +kernel
theorem dX10_back_22 : decode cX10_back 22 = .ok (.putfield 113, 3) := by decide +kernel
theorem dX10_back_25 : decode cX10_back 25 = .ok (.aload_n 0, 1) := by decide +kernel
theorem dX10_back_26 : decode cX10_back 26 = .ok (.getfield 113, 3) := by decide +kernel
theorem dX10_back_29 : decode cX10_back 29 = .ok (.ireturn, 1) := by decide +kernel
set_option maxRecDepth 20000 in
theorem ggX10_areSo_X10_bringsOf : GoodIn wsX10_areSo wsX10_bringsOf := goodIn_r _ [9, 10, 11, 12, 13, 8, 14, 15, 16, 17, 18, 19, 20, 21, 22, 23, 24, 25, 26, 27, 28, 29, 30, 31, 32, 33, 34, 35, 36, 37, 38, 39, 40, 41, 42, 43, 44, 45, 46, 47, 48, 49, 50, 51, 52] (by decide +kernel) (by decide +kernel)
set_option maxRecDepth 20000 in
theorem gX10_areSo_X10_bringsOf : GoodIn wsX10_areSo (wsV RX10 142 RX10 yX10_bringsOf wsX10_bringsOf) := goodIn_app (goodIn_of _ (by decide +kernel)) ggX10_areSo_X10_bringsOf
theorem dX10_areSo_0 : decode cX10_areSo 0 = .ok (.iconst 0, 1) := by decide +kernel
theorem dX10_areSo_1 : decode cX10_areSo 1 = .ok (.istore_n 1, 1) := by decide +kernel
theorem dX10_areSo_2 : decode cX10_areSo 2 = .ok (.iload_n 1, 1) := by decide +kernel
theorem dX10_areSo_3 : decode cX10_areSo 3 = .ok (.aload_n 0, 1) := by decide +kernel
theorem dX10_areSo_4 : decode cX10_areSo 4 = .ok (.getfield 113, 3) := by decide +kernel
theorem dX10_areSo_7 : decode cX10_areSo 7 = .ok (.if_icmp .ge 36, 3) := by decide +kernel
theorem dX10_areSo_10 : decode cX10_areSo 10 = .ok (.aload_n 0, 1) := by decide +kernel
theorem dX10_areSo_11 : decode cX10_areSo 11 = .ok (.aload_n 0, 1) := by decide +kernel
theorem dX10_areSo_12 : decode cX10_areSo 12 = .ok (.getfield 58, 3) := by decide +kernel
theorem dX10_areSo_15 : decode cX10_areSo 15 = .ok (.iload_n 1, 1) := by decide +kernel
theorem dX10_areSo_16 : decode cX10_areSo 16 = .ok (.iaload, 1) := by decide +kernel
theorem dX10_areSo_17 : decode cX10_areSo 17 = .ok (.aload_n 0, 1) := by decide +kernel
theorem dX10_areSo_18 : decode cX10_areSo 18 = .ok (.getfield 61, 3) := by decide +kernel
theorem dX10_areSo_21 : decode cX10_areSo 21 = .ok (.iload_n 1, 1) := by decide +kernel
theorem dX10_areSo_22 : decode cX10_areSo 22 = .ok (.iaload, 1) := by decide +kernel
theorem dX10_areSo_23 : decode cX10_areSo 23 = .ok (.invokevirtual 142, 3) := by decide +kernel
theorem dX10_areSo_26 : decode cX10_areSo 26 = .ok (.aload_n 0, 1) := by decide +kernel
theorem dX10_areSo_27 : decode cX10_areSo 27 = .ok (.getfield 64, 3) := by decide +kernel
theorem dX10_areSo_30 : decode cX10_areSo 30 = .ok (.iload_n 1, 1) := by decide +kernel
theorem dX10_areSo_31 : decode cX10_areSo 31 = .ok (.iaload, 1) := by decide +kernel
theorem dX10_areSo_32 : decode cX10_areSo 32 = .ok (.if_icmp .eq 5, 3) := by decide +kernel
theorem dX10_areSo_35 : decode cX10_areSo 35 = .ok (.iconst 0, 1) := by decide +kernel
theorem dX10_areSo_36 : decode cX10_areSo 36 = .ok (.ireturn, 1) := by decide +kernel
theorem dX10_areSo_37 : decode cX10_areSo 37 = .ok (.iinc 1 1, 3) := by decide +kernel
theorem dX10_areSo_40 : decode cX10_areSo 40 = .ok (.goto (-38), 3) := by decide +kernel
theorem dX10_areSo_43 : decode cX10_areSo 43 = .ok (.iconst 1, 1) := by decide +kernel
theorem dX10_areSo_44 : decode cX10_areSo 44 = .ok (.ireturn, 1) := by decide +kernel
set_option maxRecDepth 20000 in
theorem ggX10_knowings_X10_isPerson : GoodIn wsX10_knowings wsX10_isPerson := goodIn_r _ [6, 7, 30, 31, 32, 33, 34, 35, 36, 37, 38, 39, 40, 41, 42, 43, 44, 45, 46, 47, 48, 49, 50, 51, 52, 53, 54, 55, 56, 57, 58, 59, 60, 61] (by decide +kernel) (by decide +kernel)
set_option maxRecDepth 20000 in
theorem gX10_knowings_X10_isPerson : GoodIn wsX10_knowings (wsV RX10 133 RX10 yX10_isPerson wsX10_isPerson) := goodIn_app (goodIn_of _ (by decide +kernel)) ggX10_knowings_X10_isPerson
set_option maxRecDepth 20000 in
theorem ggX10_knowings_X10_areSo : GoodIn wsX10_knowings wsX10_areSo := goodIn_r _ [11, 12, 13, 14, 15, 16, 17, 18, 5, 19, 1, 20, 21, 22, 23, 24, 25, 26, 27, 28, 29, 30, 31, 32, 33, 34, 35, 36, 37, 38, 39, 40, 41, 42, 43, 44, 45, 46, 47, 48, 49, 50, 51, 52, 53, 54, 55, 56, 57, 58, 59, 60, 61] (by decide +kernel) (by decide +kernel)
set_option maxRecDepth 20000 in
theorem gX10_knowings_X10_areSo : GoodIn wsX10_knowings (wsV RX10 206 RX10 yX10_areSo wsX10_areSo) := goodIn_app (goodIn_of _ (by decide +kernel)) ggX10_knowings_X10_areSo
theorem dX10_knowings_0 : decode cX10_knowings 0 = .ok (.aload_n 0, 1) := by decide +kernel
theorem dX10_knowings_1 : decode cX10_knowings 1 = .ok (.iload_n 1, 1) := by decide +kernel
theorem dX10_knowings_2 : decode cX10_knowings 2 = .ok (.invokevirtual 133, 3) := by decide +kernel
theorem dX10_knowings_5 : decode cX10_knowings 5 = .ok (.ifCond .ne 5, 3) := by decide +kernel
theorem dX10_knowings_8 : decode cX10_knowings 8 = .ok (.iconst (-1), 1) := by decide +kernel
theorem dX10_knowings_9 : decode cX10_knowings 9 = .ok (.ireturn, 1) := by decide +kernel
theorem dX10_knowings_10 : decode cX10_knowings 10 = .ok (.aload_n 0, 1) := by decide +kernel
theorem dX10_knowings_11 : decode cX10_knowings 11 = .ok (.getfield 28, 3) := by decide +kernel
theorem dX10_knowings_14 : decode cX10_knowings 14 = .ok (.iload_n 1, 1) := by decide +kernel
theorem dX10_knowings_15 : decode cX10_knowings 15 = .ok (.iaload, 1) := by decide +kernel
theorem dX10_knowings_16 : decode cX10_knowings 16 = .ok (.istore_n 2, 1) := by decide +kernel
theorem dX10_knowings_17 : decode cX10_knowings 17 = .ok (.iconst 0, 1) := by decide +kernel
theorem dX10_knowings_18 : decode cX10_knowings 18 = .ok (.istore_n 3, 1) := by decide +kernel
theorem dX10_knowings_19 : decode cX10_knowings 19 = .ok (.iconst 0, 1) := by decide +kernel
theorem dX10_knowings_20 : decode cX10_knowings 20 = .ok (.istore 4, 2) := by decide +kernel
theorem dX10_knowings_22 : decode cX10_knowings 22 = .ok (.iload 4, 2) := by decide +kernel
theorem dX10_knowings_24 : decode cX10_knowings 24 = .ok (.bipush 7, 2) := by decide +kernel
theorem dX10_knowings_26 : decode cX10_knowings 26 = .ok (.if_icmp .gt 35, 3) := by decide +kernel
theorem dX10_knowings_29 : decode cX10_knowings 29 = .ok (.aload_n 0, 1) := by decide +kernel
theorem dX10_knowings_30 : decode cX10_knowings 30 = .ok (.getfield 28, 3) := by decide +kernel
theorem dX10_knowings_33 : decode cX10_knowings 33 = .ok (.iload_n 1, 1) := by decide +kernel
theorem dX10_knowings_34 : decode cX10_knowings 34 = .ok (.iload 4, 2) := by decide +kernel
theorem dX10_knowings_36 : decode cX10_knowings 36 = .ok (.iastore, 1) := by decide +kernel
theorem dX10_knowings_37 : decode cX10_knowings 37 = .ok (.iload_n 3, 1) := by decide +kernel
theorem dX10_knowings_38 : decode cX10_knowings 38 = .ok (.aload_n 0, 1) := by decide +kernel
theorem dX10_knowings_39 : decode cX10_knowings 39 = .ok (.invokevirtual 206, 3) := by decide +kernel
theorem dX10_knowings_42 : decode cX10_knowings 42 = .ok (.ifCond .eq 10, 3) := by decide +kernel
theorem dX10_knowings_45 : decode cX10_knowings 45 = .ok (.iconst 1, 1) := by decide +kernel
theorem dX10_knowings_46 : decode cX10_knowings 46 = .ok (.iload 4, 2) := by decide +kernel
theorem dX10_knowings_48 : decode cX10_knowings 48 = .ok (.ishl, 1) := by decide +kernel
theorem dX10_knowings_49 : decode cX10_knowings 49 = .ok (.goto 4, 3) := by decide +kernel
theorem dX10_knowings_52 : decode cX10_knowings 52 = .ok (.iconst 0, 1) := by decide +kernel
theorem dX10_knowings_53 : decode cX10_knowings 53 = .ok (.ior, 1) := by decide +kernel
theorem dX10_knowings_54 : decode cX10_knowings 54 = .ok (.istore_n 3, 1) := by decide +kernel
theorem dX10_knowings_55 : decode cX10_knowings 55 = .ok (.iinc 4 1, 3) := by decide +kernel
theorem dX10_knowings_58 : decode cX10_knowings 58 = .ok (.goto (-36), 3) := by decide +kernel
theorem dX10_knowings_61 : decode cX10_knowings 61 = .ok (.aload_n 0, 1) := by decide +kernel
theorem dX10_knowings_62 : decode cX10_knowings 62 = .ok (.getfield 28, 3) := by decide +kernel
theorem dX10_knowings_65 : decode cX10_knowings 65 = .ok (.iload_n 1, 1) := by decide +kernel
theorem dX10_knowings_66 : decode cX10_knowings 66 = .ok (.iload_n 2, 1) := by decide +kernel
theorem dX10_knowings_67 : decode cX10_knowings 67 = .ok (.iastore, 1) := by decide +kernel
theorem dX10_knowings_68 : decode cX10_knowings 68 = .ok (.iload_n 3, 1) := by decide +kernel
theorem dX10_knowings_69 : decode cX10_knowings 69 = .ok (.ireturn, 1) := by decide +kernel
set_option maxRecDepth 20000 in
theorem ggX10_wits_X10_isPerson : GoodIn wsX10_wits wsX10_isPerson := goodIn_r _ [6, 7, 30, 31, 32, 33, 34, 35, 36, 37, 38, 39, 40, 41, 42, 43, 44, 45, 46, 47, 48, 49, 50, 51, 52, 53, 54, 55, 56, 57, 58, 59, 60, 61] (by decide +kernel) (by decide +kernel)
set_option maxRecDepth 20000 in
theorem gX10_wits_X10_isPerson : GoodIn wsX10_wits (wsV RX10 133 RX10 yX10_isPerson wsX10_isPerson) := goodIn_app (goodIn_of _ (by decide +kernel)) ggX10_wits_X10_isPerson
set_option maxRecDepth 20000 in
theorem ggX10_wits_X10_areSo : GoodIn wsX10_wits wsX10_areSo := goodIn_r _ [11, 12, 13, 14, 15, 16, 17, 18, 5, 19, 20, 21, 22, 23, 24, 25, 26, 27, 28, 29, 1, 30, 31, 32, 33, 34, 35, 36, 37, 38, 39, 40, 41, 42, 43, 44, 45, 46, 47, 48, 49, 50, 51, 52, 53, 54, 55, 56, 57, 58, 59, 60, 61] (by decide +kernel) (by decide +kernel)
set_option maxRecDepth 20000 in
theorem gX10_wits_X10_areSo : GoodIn wsX10_wits (wsV RX10 206 RX10 yX10_areSo wsX10_areSo) := goodIn_app (goodIn_of _ (by decide +kernel)) ggX10_wits_X10_areSo
theorem dX10_wits_0 : decode cX10_wits 0 = .ok (.aload_n 0, 1) := by decide +kernel
theorem dX10_wits_1 : decode cX10_wits 1 = .ok (.iload_n 1, 1) := by decide +kernel
theorem dX10_wits_2 : decode cX10_wits 2 = .ok (.invokevirtual 133, 3) := by decide +kernel
theorem dX10_wits_5 : decode cX10_wits 5 = .ok (.ifCond .ne 5, 3) := by decide +kernel
theorem dX10_wits_8 : decode cX10_wits 8 = .ok (.iconst (-1), 1) := by decide +kernel
theorem dX10_wits_9 : decode cX10_wits 9 = .ok (.ireturn, 1) := by decide +kernel
theorem dX10_wits_10 : decode cX10_wits 10 = .ok (.aload_n 0, 1) := by decide +kernel
theorem dX10_wits_11 : decode cX10_wits 11 = .ok (.getfield 31, 3) := by decide +kernel
theorem dX10_wits_14 : decode cX10_wits 14 = .ok (.iload_n 1, 1) := by decide +kernel
theorem dX10_wits_15 : decode cX10_wits 15 = .ok (.iaload, 1) := by decide +kernel
theorem dX10_wits_16 : decode cX10_wits 16 = .ok (.istore_n 2, 1) := by decide +kernel
theorem dX10_wits_17 : decode cX10_wits 17 = .ok (.iconst 0, 1) := by decide +kernel
theorem dX10_wits_18 : decode cX10_wits 18 = .ok (.istore_n 3, 1) := by decide +kernel
theorem dX10_wits_19 : decode cX10_wits 19 = .ok (.iconst 0, 1) := by decide +kernel
theorem dX10_wits_20 : decode cX10_wits 20 = .ok (.istore 4, 2) := by decide +kernel
theorem dX10_wits_22 : decode cX10_wits 22 = .ok (.iload 4, 2) := by decide +kernel
theorem dX10_wits_24 : decode cX10_wits 24 = .ok (.bipush 9, 2) := by decide +kernel
theorem dX10_wits_26 : decode cX10_wits 26 = .ok (.if_icmp .gt 35, 3) := by decide +kernel
theorem dX10_wits_29 : decode cX10_wits 29 = .ok (.aload_n 0, 1) := by decide +kernel
theorem dX10_wits_30 : decode cX10_wits 30 = .ok (.getfield 31, 3) := by decide +kernel
theorem dX10_wits_33 : decode cX10_wits 33 = .ok (.iload_n 1, 1) := by decide +kernel
theorem dX10_wits_34 : decode cX10_wits 34 = .ok (.iload 4, 2) := by decide +kernel
theorem dX10_wits_36 : decode cX10_wits 36 = .ok (.iastore, 1) := by decide +kernel
theorem dX10_wits_37 : decode cX10_wits 37 = .ok (.iload_n 3, 1) := by decide +kernel
theorem dX10_wits_38 : decode cX10_wits 38 = .ok (.aload_n 0, 1) := by decide +kernel
theorem dX10_wits_39 : decode cX10_wits 39 = .ok (.invokevirtual 206, 3) := by decide +kernel
theorem dX10_wits_42 : decode cX10_wits 42 = .ok (.ifCond .eq 10, 3) := by decide +kernel
theorem dX10_wits_45 : decode cX10_wits 45 = .ok (.iconst 1, 1) := by decide +kernel
theorem dX10_wits_46 : decode cX10_wits 46 = .ok (.iload 4, 2) := by decide +kernel
theorem dX10_wits_48 : decode cX10_wits 48 = .ok (.ishl, 1) := by decide +kernel
theorem dX10_wits_49 : decode cX10_wits 49 = .ok (.goto 4, 3) := by decide +kernel
theorem dX10_wits_52 : decode cX10_wits 52 = .ok (.iconst 0, 1) := by decide +kernel
theorem dX10_wits_53 : decode cX10_wits 53 = .ok (.ior, 1) := by decide +kernel
theorem dX10_wits_54 : decode cX10_wits 54 = .ok (.istore_n 3, 1) := by decide +kernel
theorem dX10_wits_55 : decode cX10_wits 55 = .ok (.iinc 4 1, 3) := by decide +kernel
theorem dX10_wits_58 : decode cX10_wits 58 = .ok (.goto (-36), 3) := by decide +kernel
theorem dX10_wits_61 : decode cX10_wits 61 = .ok (.aload_n 0, 1) := by decide +kernel
theorem dX10_wits_62 : decode cX10_wits 62 = .ok (.getfield 31, 3) := by decide +kernel
theorem dX10_wits_65 : decode cX10_wits 65 = .ok (.iload_n 1, 1) := by decide +kernel
theorem dX10_wits_66 : decode cX10_wits 66 = .ok (.iload_n 2, 1) := by decide +kernel
theorem dX10_wits_67 : decode cX10_wits 67 = .ok (.iastore, 1) := by decide +kernel
theorem dX10_wits_68 : decode cX10_wits 68 = .ok (.iload_n 3, 1) := by decide +kernel
theorem dX10_wits_69 : decode cX10_wits 69 = .ok (.ireturn, 1) := by decide +kernel
set_option maxRecDepth 20000 in
theorem ggX10_kinds_X10_isPerson : GoodIn wsX10_kinds wsX10_isPerson := goodIn_r _ [6, 7, 30, 31, 32, 33, 34, 35, 36, 37, 38, 39, 40, 41, 42, 43, 44, 45, 46, 47, 48, 49, 50, 51, 52, 53, 54, 55, 56, 57, 58, 59, 60, 61] (by decide +kernel) (by decide +kernel)
set_option maxRecDepth 20000 in
theorem gX10_kinds_X10_isPerson : GoodIn wsX10_kinds (wsV RX10 133 RX10 yX10_isPerson wsX10_isPerson) := goodIn_app (goodIn_of _ (by decide +kernel)) ggX10_kinds_X10_isPerson
set_option maxRecDepth 20000 in
theorem ggX10_kinds_X10_areSo : GoodIn wsX10_kinds wsX10_areSo := goodIn_r _ [11, 12, 13, 14, 15, 16, 17, 18, 5, 19, 20, 21, 22, 23, 24, 25, 26, 27, 28, 1, 29, 30, 31, 32, 33, 34, 35, 36, 37, 38, 39, 40, 41, 42, 43, 44, 45, 46, 47, 48, 49, 50, 51, 52, 53, 54, 55, 56, 57, 58, 59, 60, 61] (by decide +kernel) (by decide +kernel)
set_option maxRecDepth 20000 in
theorem gX10_kinds_X10_areSo : GoodIn wsX10_kinds (wsV RX10 206 RX10 yX10_areSo wsX10_areSo) := goodIn_app (goodIn_of _ (by decide +kernel)) ggX10_kinds_X10_areSo
theorem dX10_kinds_0 : decode cX10_kinds 0 = .ok (.aload_n 0, 1) := by decide +kernel
theorem dX10_kinds_1 : decode cX10_kinds 1 = .ok (.iload_n 1, 1) := by decide +kernel
theorem dX10_kinds_2 : decode cX10_kinds 2 = .ok (.invokevirtual 133, 3) := by decide +kernel
theorem dX10_kinds_5 : decode cX10_kinds 5 = .ok (.ifCond .ne 5, 3) := by decide +kernel
theorem dX10_kinds_8 : decode cX10_kinds 8 = .ok (.iconst (-1), 1) := by decide +kernel
theorem dX10_kinds_9 : decode cX10_kinds 9 = .ok (.ireturn, 1) := by decide +kernel
theorem dX10_kinds_10 : decode cX10_kinds 10 = .ok (.aload_n 0, 1) := by decide +kernel
theorem dX10_kinds_11 : decode cX10_kinds 11 = .ok (.getfield 22, 3) := by decide +kernel
theorem dX10_kinds_14 : decode cX10_kinds 14 = .ok (.iload_n 1, 1) := by decide +kernel
theorem dX10_kinds_15 : decode cX10_kinds 15 = .ok (.iaload, 1) := by decide +kernel
theorem dX10_kinds_16 : decode cX10_kinds 16 = .ok (.istore_n 2, 1) := by decide +kernel
theorem dX10_kinds_17 : decode cX10_kinds 17 = .ok (.iconst 0, 1) := by decide +kernel
theorem dX10_kinds_18 : decode cX10_kinds 18 = .ok (.istore_n 3, 1) := by decide +kernel
theorem dX10_kinds_19 : decode cX10_kinds 19 = .ok (.iconst 0, 1) := by decide +kernel
theorem dX10_kinds_20 : decode cX10_kinds 20 = .ok (.istore 4, 2) := by decide +kernel
theorem dX10_kinds_22 : decode cX10_kinds 22 = .ok (.iload 4, 2) := by decide +kernel
theorem dX10_kinds_24 : decode cX10_kinds 24 = .ok (.iconst 3, 1) := by decide +kernel
theorem dX10_kinds_25 : decode cX10_kinds 25 = .ok (.if_icmp .ge 35, 3) := by decide +kernel
theorem dX10_kinds_28 : decode cX10_kinds 28 = .ok (.aload_n 0, 1) := by decide +kernel
theorem dX10_kinds_29 : decode cX10_kinds 29 = .ok (.getfield 22, 3) := by decide +kernel
theorem dX10_kinds_32 : decode cX10_kinds 32 = .ok (.iload_n 1, 1) := by decide +kernel
theorem dX10_kinds_33 : decode cX10_kinds 33 = .ok (.iload 4, 2) := by decide +kernel
theorem dX10_kinds_35 : decode cX10_kinds 35 = .ok (.iastore, 1) := by decide +kernel
theorem dX10_kinds_36 : decode cX10_kinds 36 = .ok (.iload_n 3, 1) := by decide +kernel
theorem dX10_kinds_37 : decode cX10_kinds 37 = .ok (.aload_n 0, 1) := by decide +kernel
theorem dX10_kinds_38 : decode cX10_kinds 38 = .ok (.invokevirtual 206, 3) := by decide +kernel
theorem dX10_kinds_41 : decode cX10_kinds 41 = .ok (.ifCond .eq 10, 3) := by decide +kernel
theorem dX10_kinds_44 : decode cX10_kinds 44 = .ok (.iconst 1, 1) := by decide +kernel
theorem dX10_kinds_45 : decode cX10_kinds 45 = .ok (.iload 4, 2) := by decide +kernel
theorem dX10_kinds_47 : decode cX10_kinds 47 = .ok (.ishl, 1) := by decide +kernel
theorem dX10_kinds_48 : decode cX10_kinds 48 = .ok (.goto 4, 3) := by decide +kernel
theorem dX10_kinds_51 : decode cX10_kinds 51 = .ok (.iconst 0, 1) := by decide +kernel
theorem dX10_kinds_52 : decode cX10_kinds 52 = .ok (.ior, 1) := by decide +kernel
theorem dX10_kinds_53 : decode cX10_kinds 53 = .ok (.istore_n 3, 1) := by decide +kernel
theorem dX10_kinds_54 : decode cX10_kinds 54 = .ok (.iinc 4 1, 3) := by decide +kernel
theorem dX10_kinds_57 : decode cX10_kinds 57 = .ok (.goto (-35), 3) := by decide +kernel
theorem dX10_kinds_60 : decode cX10_kinds 60 = .ok (.aload_n 0, 1) := by decide +kernel
theorem dX10_kinds_61 : decode cX10_kinds 61 = .ok (.getfield 22, 3) := by decide +kernel
theorem dX10_kinds_64 : decode cX10_kinds 64 = .ok (.iload_n 1, 1) := by decide +kernel
theorem dX10_kinds_65 : decode cX10_kinds 65 = .ok (.iload_n 2, 1) := by decide +kernel
theorem dX10_kinds_66 : decode cX10_kinds 66 = .ok (.iastore, 1) := by decide +kernel
theorem dX10_kinds_67 : decode cX10_kinds 67 = .ok (.iload_n 3, 1) := by decide +kernel
theorem dX10_kinds_68 : decode cX10_kinds 68 = .ok (.ireturn, 1) := by decide +kernel
set_option maxRecDepth 20000 in
theorem ggX10_worths_X10_isMatter : GoodIn wsX10_worths wsX10_isMatter := goodIn_r _ [6, 7, 30, 31, 32, 33, 34, 35, 36, 37, 38, 39, 40, 41, 42, 43, 44, 45, 46, 47, 48, 49, 50, 51, 52, 53, 54, 55, 56, 57, 58, 59, 60, 61] (by decide +kernel) (by decide +kernel)
set_option maxRecDepth 20000 in
theorem gX10_worths_X10_isMatter : GoodIn wsX10_worths (wsV RX10 139 RX10 yX10_isMatter wsX10_isMatter) := goodIn_app (goodIn_of _ (by decide +kernel)) ggX10_worths_X10_isMatter
set_option maxRecDepth 20000 in
theorem ggX10_worths_X10_areSo : GoodIn wsX10_worths wsX10_areSo := goodIn_r _ [11, 12, 13, 14, 15, 16, 17, 18, 5, 19, 20, 1, 21, 22, 23, 24, 25, 26, 27, 28, 29, 30, 31, 32, 33, 34, 35, 36, 37, 38, 39, 40, 41, 42, 43, 44, 45, 46, 47, 48, 49, 50, 51, 52, 53, 54, 55, 56, 57, 58, 59, 60, 61] (by decide +kernel) (by decide +kernel)
set_option maxRecDepth 20000 in
theorem gX10_worths_X10_areSo : GoodIn wsX10_worths (wsV RX10 206 RX10 yX10_areSo wsX10_areSo) := goodIn_app (goodIn_of _ (by decide +kernel)) ggX10_worths_X10_areSo
theorem dX10_worths_0 : decode cX10_worths 0 = .ok (.aload_n 0, 1) := by decide +kernel
theorem dX10_worths_1 : decode cX10_worths 1 = .ok (.iload_n 1, 1) := by decide +kernel
theorem dX10_worths_2 : decode cX10_worths 2 = .ok (.invokevirtual 139, 3) := by decide +kernel
theorem dX10_worths_5 : decode cX10_worths 5 = .ok (.ifCond .ne 5, 3) := by decide +kernel
theorem dX10_worths_8 : decode cX10_worths 8 = .ok (.iconst (-1), 1) := by decide +kernel
theorem dX10_worths_9 : decode cX10_worths 9 = .ok (.ireturn, 1) := by decide +kernel
theorem dX10_worths_10 : decode cX10_worths 10 = .ok (.aload_n 0, 1) := by decide +kernel
theorem dX10_worths_11 : decode cX10_worths 11 = .ok (.getfield 19, 3) := by decide +kernel
theorem dX10_worths_14 : decode cX10_worths 14 = .ok (.iload_n 1, 1) := by decide +kernel
theorem dX10_worths_15 : decode cX10_worths 15 = .ok (.iaload, 1) := by decide +kernel
theorem dX10_worths_16 : decode cX10_worths 16 = .ok (.istore_n 2, 1) := by decide +kernel
theorem dX10_worths_17 : decode cX10_worths 17 = .ok (.iconst 0, 1) := by decide +kernel
theorem dX10_worths_18 : decode cX10_worths 18 = .ok (.istore_n 3, 1) := by decide +kernel
theorem dX10_worths_19 : decode cX10_worths 19 = .ok (.iconst 0, 1) := by decide +kernel
theorem dX10_worths_20 : decode cX10_worths 20 = .ok (.istore 4, 2) := by decide +kernel
theorem dX10_worths_22 : decode cX10_worths 22 = .ok (.iload 4, 2) := by decide +kernel
theorem dX10_worths_24 : decode cX10_worths 24 = .ok (.bipush 9, 2) := by decide +kernel
theorem dX10_worths_26 : decode cX10_worths 26 = .ok (.if_icmp .gt 35, 3) := by decide +kernel
theorem dX10_worths_29 : decode cX10_worths 29 = .ok (.aload_n 0, 1) := by decide +kernel
theorem dX10_worths_30 : decode cX10_worths 30 = .ok (.getfield 19, 3) := by decide +kernel
theorem dX10_worths_33 : decode cX10_worths 33 = .ok (.iload_n 1, 1) := by decide +kernel
theorem dX10_worths_34 : decode cX10_worths 34 = .ok (.iload 4, 2) := by decide +kernel
theorem dX10_worths_36 : decode cX10_worths 36 = .ok (.iastore, 1) := by decide +kernel
theorem dX10_worths_37 : decode cX10_worths 37 = .ok (.iload_n 3, 1) := by decide +kernel
theorem dX10_worths_38 : decode cX10_worths 38 = .ok (.aload_n 0, 1) := by decide +kernel
theorem dX10_worths_39 : decode cX10_worths 39 = .ok (.invokevirtual 206, 3) := by decide +kernel
theorem dX10_worths_42 : decode cX10_worths 42 = .ok (.ifCond .eq 10, 3) := by decide +kernel
theorem dX10_worths_45 : decode cX10_worths 45 = .ok (.iconst 1, 1) := by decide +kernel
theorem dX10_worths_46 : decode cX10_worths 46 = .ok (.iload 4, 2) := by decide +kernel
theorem dX10_worths_48 : decode cX10_worths 48 = .ok (.ishl, 1) := by decide +kernel
theorem dX10_worths_49 : decode cX10_worths 49 = .ok (.goto 4, 3) := by decide +kernel
theorem dX10_worths_52 : decode cX10_worths 52 = .ok (.iconst 0, 1) := by decide +kernel
theorem dX10_worths_53 : decode cX10_worths 53 = .ok (.ior, 1) := by decide +kernel
theorem dX10_worths_54 : decode cX10_worths 54 = .ok (.istore_n 3, 1) := by decide +kernel
theorem dX10_worths_55 : decode cX10_worths 55 = .ok (.iinc 4 1, 3) := by decide +kernel
theorem dX10_worths_58 : decode cX10_worths 58 = .ok (.goto (-36), 3) := by decide +kernel
theorem dX10_worths_61 : decode cX10_worths 61 = .ok (.aload_n 0, 1) := by decide +kernel
theorem dX10_worths_62 : decode cX10_worths 62 = .ok (.getfield 19, 3) := by decide +kernel
theorem dX10_worths_65 : decode cX10_worths 65 = .ok (.iload_n 1, 1) := by decide +kernel
theorem dX10_worths_66 : decode cX10_worths 66 = .ok (.iload_n 2, 1) := by decide +kernel
theorem dX10_worths_67 : decode cX10_worths 67 = .ok (.iastore, 1) := by decide +kernel
theorem dX10_worths_68 : decode cX10_worths 68 = .ok (.iload_n 3, 1) := by decide +kernel
theorem dX10_worths_69 : decode cX10_worths 69 = .ok (.ireturn, 1) := by decide +kernel
theorem dX10_inLeastTerms_0 : decode cX10_inLeastTerms 0 = .ok (.lload_n 0, 1) := by decide +kernel
theorem dX10_inLeastTerms_1 : decode cX10_inLeastTerms 1 = .ok (.lstore 5, 2) := by decide +kernel
theorem dX10_inLeastTerms_3 : decode cX10_inLeastTerms 3 = .ok (.lload_n 2, 1) := by decide +kernel
theorem dX10_inLeastTerms_4 : decode cX10_inLeastTerms 4 = .ok (.lstore 7, 2) := by decide +kernel
theorem dX10_inLeastTerms_6 : decode cX10_inLeastTerms 6 = .ok (.lload 7, 2) := by decide +kernel
theorem dX10_inLeastTerms_8 : decode cX10_inLeastTerms 8 = .ok (.lconst 0, 1) := by decide +kernel
theorem dX10_inLeastTerms_9 : decode cX10_inLeastTerms 9 = .ok (.lcmp, 1) := by decide +kernel
theorem dX10_inLeastTerms_10 : decode cX10_inLeastTerms 10 = .ok (.ifCond .eq 21, 3) := by decide +kernel
theorem dX10_inLeastTerms_13 : decode cX10_inLeastTerms 13 = .ok (.lload 5, 2) := by decide +kernel
theorem dX10_inLeastTerms_15 : decode cX10_inLeastTerms 15 = .ok (.lload 7, 2) := by decide +kernel
theorem dX10_inLeastTerms_17 : decode cX10_inLeastTerms 17 = .ok (.lrem, 1) := by decide +kernel
theorem dX10_inLeastTerms_18 : decode cX10_inLeastTerms 18 = .ok (.lstore 9, 2) := by decide +kernel
theorem dX10_inLeastTerms_20 : decode cX10_inLeastTerms 20 = .ok (.lload 7, 2) := by decide +kernel
theorem dX10_inLeastTerms_22 : decode cX10_inLeastTerms 22 = .ok (.lstore 5, 2) := by decide +kernel
theorem dX10_inLeastTerms_24 : decode cX10_inLeastTerms 24 = .ok (.lload 9, 2) := by decide +kernel
theorem dX10_inLeastTerms_26 : decode cX10_inLeastTerms 26 = .ok (.lstore 7, 2) := by decide +kernel
theorem dX10_inLeastTerms_28 : decode cX10_inLeastTerms 28 = .ok (.goto (-22), 3) := by decide +kernel
theorem dX10_inLeastTerms_31 : decode cX10_inLeastTerms 31 = .ok (.iload 4, 2) := by decide +kernel
theorem dX10_inLeastTerms_33 : decode cX10_inLeastTerms 33 = .ok (.ifCond .ne 10, 3) := by decide +kernel
theorem dX10_inLeastTerms_36 : decode cX10_inLeastTerms 36 = .ok (.lload_n 0, 1) := by decide +kernel
theorem dX10_inLeastTerms_37 : decode cX10_inLeastTerms 37 = .ok (.lload 5, 2) := by decide +kernel
theorem dX10_inLeastTerms_39 : decode cX10_inLeastTerms 39 = .ok (.ldiv, 1) := by decide +kernel
theorem dX10_inLeastTerms_40 : decode cX10_inLeastTerms 40 = .ok (.goto 7, 3) := by decide +kernel
theorem dX10_inLeastTerms_43 : decode cX10_inLeastTerms 43 = .ok (.lload_n 2, 1) := by decide +kernel
theorem dX10_inLeastTerms_44 : decode cX10_inLeastTerms 44 = .ok (.lload 5, 2) := by decide +kernel
theorem dX10_inLeastTerms_46 : decode cX10_inLeastTerms 46 = .ok (.ldiv, 1) := by decide +kernel
theorem dX10_inLeastTerms_47 : decode cX10_inLeastTerms 47 = .ok (.lreturn, 1) := by decide +kernel
set_option maxRecDepth 20000 in
theorem ggX10_odds_X10_isPerson : GoodIn wsX10_odds wsX10_isPerson := goodIn_r _ [8, 9, 30, 31, 32, 33, 34, 35, 36, 37, 38, 39, 40, 41, 42, 43, 44, 45, 46, 47, 48, 49, 50, 51, 52, 53, 54, 55, 56, 57, 58, 59, 60, 61] (by decide +kernel) (by decide +kernel)
set_option maxRecDepth 20000 in
theorem gX10_odds_X10_isPerson : GoodIn wsX10_odds (wsV RX10 133 RX10 yX10_isPerson wsX10_isPerson) := goodIn_app (goodIn_of _ (by decide +kernel)) ggX10_odds_X10_isPerson
set_option maxRecDepth 20000 in
theorem ggX10_odds_X10_within : GoodIn wsX10_odds wsX10_within := goodIn_r _ [12] (by decide +kernel) (by decide +kernel)
set_option maxRecDepth 20000 in
theorem gX10_odds_X10_within : GoodIn wsX10_odds (va_wsS RX10 73 yX10_within wsX10_within) := goodIn_app (goodIn_of _ (by decide +kernel)) ggX10_odds_X10_within
set_option maxRecDepth 20000 in
theorem ggX10_odds_X10_bringsOf : GoodIn wsX10_odds wsX10_bringsOf := goodIn_r _ [16, 2, 17, 18, 19, 7, 20, 21, 22, 23, 24, 25, 26, 30, 31, 32, 33, 34, 35, 36, 37, 38, 39, 40, 41, 42, 43, 44, 45, 46, 47, 48, 49, 50, 51, 52, 53, 54, 55, 56, 57, 58, 59, 60, 61] (by decide +kernel) (by decide +kernel)
set_option maxRecDepth 20000 in
theorem gX10_odds_X10_bringsOf : GoodIn wsX10_odds (wsV RX10 142 RX10 yX10_bringsOf wsX10_bringsOf) := goodIn_app (goodIn_of _ (by decide +kernel)) ggX10_odds_X10_bringsOf
set_option maxRecDepth 20000 in
theorem ggX10_odds_X10_inLeastTerms : GoodIn wsX10_odds wsX10_inLeastTerms := goodIn_r _ [29] (by decide +kernel) (by decide +kernel)
set_option maxRecDepth 20000 in
theorem gX10_odds_X10_inLeastTerms : GoodIn wsX10_odds (va_wsS RX10 212 yX10_inLeastTerms wsX10_inLeastTerms) := goodIn_app (goodIn_of _ (by decide +kernel)) ggX10_odds_X10_inLeastTerms
theorem dX10_odds_0 : decode cX10_odds 0 = .ok (.aload_n 0, 1) := by decide +kernel
theorem dX10_odds_1 : decode cX10_odds 1 = .ok (.iload_n 1, 1) := by decide +kernel
theorem dX10_odds_2 : decode cX10_odds 2 = .ok (.invokevirtual 133, 3) := by decide +kernel
theorem dX10_odds_5 : decode cX10_odds 5 = .ok (.ifCond .eq 23, 3) := by decide +kernel
theorem dX10_odds_8 : decode cX10_odds 8 = .ok (.iload_n 2, 1) := by decide +kernel
theorem dX10_odds_9 : decode cX10_odds 9 = .ok (.iconst 0, 1) := by decide +kernel
theorem dX10_odds_10 : decode cX10_odds 10 = .ok (.sipush 200, 3) := by decide +kernel
theorem dX10_odds_13 : decode cX10_odds 13 = .ok (.invokestatic 73, 3) := by decide +kernel
theorem dX10_odds_16 : decode cX10_odds 16 = .ok (.ifCond .eq 12, 3) := by decide +kernel
theorem dX10_odds_19 : decode cX10_odds 19 = .ok (.iload_n 3, 1) := by decide +kernel
theorem dX10_odds_20 : decode cX10_odds 20 = .ok (.iconst 0, 1) := by decide +kernel
theorem dX10_odds_21 : decode cX10_odds 21 = .ok (.iconst 1, 1) := by decide +kernel
theorem dX10_odds_22 : decode cX10_odds 22 = .ok (.invokestatic 73, 3) := by decide +kernel
theorem dX10_odds_25 : decode cX10_odds 25 = .ok (.ifCond .ne 7, 3) := by decide +kernel
theorem dX10_odds_28 : decode cX10_odds 28 = .ok (.ldc2_w 71, 3) := by decide +kernel
theorem dX10_odds_31 : decode cX10_odds 31 = .ok (.lreturn, 1) := by decide +kernel
theorem dX10_odds_32 : decode cX10_odds 32 = .ok (.aload_n 0, 1) := by decide +kernel
theorem dX10_odds_33 : decode cX10_odds 33 = .ok (.getfield 28, 3) := by decide +kernel
theorem dX10_odds_36 : decode cX10_odds 36 = .ok (.iload_n 1, 1) := by decide +kernel
theorem dX10_odds_37 : decode cX10_odds 37 = .ok (.iaload, 1) := by decide +kernel
theorem dX10_odds_38 : decode cX10_odds 38 = .ok (.istore 4, 2) := by decide +kernel
theorem dX10_odds_40 : decode cX10_odds 40 = .ok (.iconst 0, 1) := by decide +kernel
theorem dX10_odds_41 : decode cX10_odds 41 = .ok (.istore 5, 2) := by decide +kernel
theorem dX10_odds_43 : decode cX10_odds 43 = .ok (.iconst 0, 1) := by decide +kernel
theorem dX10_odds_44 : decode cX10_odds 44 = .ok (.istore 6, 2) := by decide +kernel
theorem dX10_odds_46 : decode cX10_odds 46 = .ok (.iload 6, 2) := by decide +kernel
theorem dX10_odds_48 : decode cX10_odds 48 = .ok (.bipush 7, 2) := by decide +kernel
theorem dX10_odds_50 : decode cX10_odds 50 = .ok (.if_icmp .gt 53, 3) := by decide +kernel
theorem dX10_odds_53 : decode cX10_odds 53 = .ok (.aload_n 0, 1) := by decide +kernel
theorem dX10_odds_54 : decode cX10_odds 54 = .ok (.getfield 28, 3) := by decide +kernel
theorem dX10_odds_57 : decode cX10_odds 57 = .ok (.iload_n 1, 1) := by decide +kernel
theorem dX10_odds_58 : decode cX10_odds 58 = .ok (.iload 6, 2) := by decide +kernel
theorem dX10_odds_60 : decode cX10_odds 60 = .ok (.iastore, 1) := by decide +kernel
theorem dX10_odds_61 : decode cX10_odds 61 = .ok (.iconst 0, 1) := by decide +kernel
theorem dX10_odds_62 : decode cX10_odds 62 = .ok (.istore 7, 2) := by decide +kernel
theorem dX10_odds_64 : decode cX10_odds 64 = .ok (.iload 7, 2) := by decide +kernel
theorem dX10_odds_66 : decode cX10_odds 66 = .ok (.iconst 3, 1) := by decide +kernel
theorem dX10_odds_67 : decode cX10_odds 67 = .ok (.if_icmp .ge 30, 3) := by decide +kernel
theorem dX10_odds_70 : decode cX10_odds 70 = .ok (.iload 5, 2) := by decide +kernel
theorem dX10_odds_72 : decode cX10_odds 72 = .ok (.aload_n 0, 1) := by decide +kernel
theorem dX10_odds_73 : decode cX10_odds 73 = .ok (.iload_n 1, 1) := by decide +kernel
theorem dX10_odds_74 : decode cX10_odds 74 = .ok (.iload 7, 2) := by decide +kernel
theorem dX10_odds_76 : decode cX10_odds 76 = .ok (.invokevirtual 142, 3) := by decide +kernel
theorem dX10_odds_79 : decode cX10_odds 79 = .ok (.iload_n 2, 1) := by decide +kernel
theorem dX10_odds_80 : decode cX10_odds 80 = .ok (.if_icmp .lt 7, 3) := by decide +kernel
theorem dX10_odds_83 : decode cX10_odds 83 = .ok (.iconst 1, 1) := by decide +kernel
theorem dX10_odds_84 : decode cX10_odds 84 = .ok (.goto 4, 3) := by decide +kernel
theorem dX10_odds_87 : decode cX10_odds 87 = .ok (.iconst 0, 1) := by decide +kernel
theorem dX10_odds_88 : decode cX10_odds 88 = .ok (.iadd, 1) := by decide +kernel
theorem dX10_odds_89 : decode cX10_odds 89 = .ok (.istore 5, 2) := by decide +kernel
theorem dX10_odds_91 : decode cX10_odds 91 = .ok (.iinc 7 1, 3) := by decide +kernel
theorem dX10_odds_94 : decode cX10_odds 94 = .ok (.goto (-30), 3) := by decide +kernel
theorem dX10_odds_97 : decode cX10_odds 97 = .ok (.iinc 6 1, 3) := by decide +kernel
theorem dX10_odds_100 : decode cX10_odds 100 = .ok (.goto (-54), 3) := by decide +kernel
theorem dX10_odds_103 : decode cX10_odds 103 = .ok (.aload_n 0, 1) := by decide +kernel
theorem dX10_odds_104 : decode cX10_odds 104 = .ok (.getfield 28, 3) := by decide +kernel
theorem dX10_odds_107 : decode cX10_odds 107 = .ok (.iload_n 1, 1) := by decide +kernel
theorem dX10_odds_108 : decode cX10_odds 108 = .ok (.iload 4, 2) := by decide +kernel
theorem dX10_odds_110 : decode cX10_odds 110 = .ok (.iastore, 1) := by decide +kernel
theorem dX10_odds_111 : decode cX10_odds 111 = .ok (.iload 5, 2) := by decide +kernel
theorem dX10_odds_113 : decode cX10_odds 113 = .ok (.i2l, 1) := by decide +kernel
theorem dX10_odds_114 : decode cX10_odds 114 = .ok (.ldc2_w 210, 3) := by decide +kernel
theorem dX10_odds_117 : decode cX10_odds 117 = .ok (.iload_n 3, 1) := by decide +kernel
theorem dX10_odds_118 : decode cX10_odds 118 = .ok (.invokestatic 212, 3) := by decide +kernel
theorem dX10_odds_121 : decode cX10_odds 121 = .ok (.lreturn, 1) := by decide +kernel
set_option maxRecDepth 20000 in
theorem ggX10_sheet_X10_isSheet : GoodIn wsX10_sheet wsX10_isSheet := goodIn_r _ [8, 9, 10, 7, 11] (by decide +kernel) (by decide +kernel)
set_option maxRecDepth 20000 in
theorem gX10_sheet_X10_isSheet : GoodIn wsX10_sheet (va_wsS RX10 83 yX10_isSheet wsX10_isSheet) := goodIn_app (goodIn_of _ (by decide +kernel)) ggX10_sheet_X10_isSheet
set_option maxRecDepth 20000 in
theorem ggX10_sheet_X10_isSort : GoodIn wsX10_sheet wsX10_isSort := goodIn_r _ [14, 9, 10, 7, 11] (by decide +kernel) (by decide +kernel)
set_option maxRecDepth 20000 in
theorem gX10_sheet_X10_isSort : GoodIn wsX10_sheet (va_wsS RX10 87 yX10_isSort wsX10_isSort) := goodIn_app (goodIn_of _ (by decide +kernel)) ggX10_sheet_X10_isSort
set_option maxRecDepth 20000 in
theorem ggX10_sheet_X10_fails : GoodIn wsX10_sheet wsX10_fails := goodIn_r _ [18, 1, 19, 20, 21, 22, 23, 24, 25, 26, 27, 28, 29, 30, 31, 32, 33, 34, 35, 36, 37, 38, 39, 40, 41, 42, 43, 44, 45, 46, 47, 48, 49, 50] (by decide +kernel) (by decide +kernel)
set_option maxRecDepth 20000 in
theorem gX10_sheet_X10_fails : GoodIn wsX10_sheet (wsV RX10 94 RX10 yX10_fails wsX10_fails) := goodIn_app (goodIn_of _ (by decide +kernel)) ggX10_sheet_X10_fails
theorem dX10_sheet_0 : decode cX10_sheet 0 = .ok (.aload_n 0, 1) := by decide +kernel
theorem dX10_sheet_1 : decode cX10_sheet 1 = .ok (.iconst 0, 1) := by decide +kernel
theorem dX10_sheet_2 : decode cX10_sheet 2 = .ok (.putfield 67, 3) := by decide +kernel
theorem dX10_sheet_5 : decode cX10_sheet 5 = .ok (.iload_n 1, 1) := by decide +kernel
theorem dX10_sheet_6 : decode cX10_sheet 6 = .ok (.invokestatic 83, 3) := by decide +kernel
theorem dX10_sheet_9 : decode cX10_sheet 9 = .ok (.ifCond .ne 5, 3) := by decide +kernel
theorem dX10_sheet_12 : decode cX10_sheet 12 = .ok (.iconst (-1), 1) := by decide +kernel
theorem dX10_sheet_13 : decode cX10_sheet 13 = .ok (.ireturn, 1) := by decide +kernel
theorem dX10_sheet_14 : decode cX10_sheet 14 = .ok (.iload_n 2, 1) := by decide +kernel
theorem dX10_sheet_15 : decode cX10_sheet 15 = .ok (.invokestatic 87, 3) := by decide +kernel
theorem dX10_sheet_18 : decode cX10_sheet 18 = .ok (.ifCond .eq 9, 3) := by decide +kernel
theorem dX10_sheet_21 : decode cX10_sheet 21 = .ok (.iload_n 3, 1) := by decide +kernel
theorem dX10_sheet_22 : decode cX10_sheet 22 = .ok (.bipush 60, 2) := by decide +kernel
theorem dX10_sheet_24 : decode cX10_sheet 24 = .ok (.if_icmp .le 6, 3) := by decide +kernel
theorem dX10_sheet_27 : decode cX10_sheet 27 = .ok (.bipush (-2), 2) := by decide +kernel
theorem dX10_sheet_29 : decode cX10_sheet 29 = .ok (.ireturn, 1) := by decide +kernel
theorem dX10_sheet_30 : decode cX10_sheet 30 = .ok (.iload_n 3, 1) := by decide +kernel
theorem dX10_sheet_31 : decode cX10_sheet 31 = .ok (.ifCond .ge 9, 3) := by decide +kernel
theorem dX10_sheet_34 : decode cX10_sheet 34 = .ok (.aload_n 0, 1) := by decide +kernel
theorem dX10_sheet_35 : decode cX10_sheet 35 = .ok (.iconst 4, 1) := by decide +kernel
theorem dX10_sheet_36 : decode cX10_sheet 36 = .ok (.invokevirtual 94, 3) := by decide +kernel
theorem dX10_sheet_39 : decode cX10_sheet 39 = .ok (.ireturn, 1) := by decide +kernel
theorem dX10_sheet_40 : decode cX10_sheet 40 = .ok (.aload_n 0, 1) := by decide +kernel
theorem dX10_sheet_41 : decode cX10_sheet 41 = .ok (.getfield 9, 3) := by decide +kernel
theorem dX10_sheet_44 : decode cX10_sheet 44 = .ok (.iload_n 1, 1) := by decide +kernel
theorem dX10_sheet_45 : decode cX10_sheet 45 = .ok (.iload_n 2, 1) := by decide +kernel
theorem dX10_sheet_46 : decode cX10_sheet 46 = .ok (.iastore, 1) := by decide +kernel
theorem dX10_sheet_47 : decode cX10_sheet 47 = .ok (.aload_n 0, 1) := by decide +kernel
theorem dX10_sheet_48 : decode cX10_sheet 48 = .ok (.getfield 13, 3) := by decide +kernel
theorem dX10_sheet_51 : decode cX10_sheet 51 = .ok (.iload_n 1, 1) := by decide +kernel
theorem dX10_sheet_52 : decode cX10_sheet 52 = .ok (.iload_n 3, 1) := by decide +kernel
theorem dX10_sheet_53 : decode cX10_sheet 53 = .ok (.iastore, 1) := by decide +kernel
theorem dX10_sheet_54 : decode cX10_sheet 54 = .ok (.iconst 0, 1) := by decide +kernel
theorem dX10_sheet_55 : decode cX10_sheet 55 = .ok (.istore 4, 2) := by decide +kernel
theorem dX10_sheet_57 : decode cX10_sheet 57 = .ok (.iload 4, 2) := by decide +kernel
theorem dX10_sheet_59 : decode cX10_sheet 59 = .ok (.bipush 60, 2) := by decide +kernel
theorem dX10_sheet_61 : decode cX10_sheet 61 = .ok (.if_icmp .ge 22, 3) := by decide +kernel
theorem dX10_sheet_64 : decode cX10_sheet 64 = .ok (.aload_n 0, 1) := by decide +kernel
theorem dX10_sheet_65 : decode cX10_sheet 65 = .ok (.getfield 16, 3) := by decide +kernel
theorem dX10_sheet_68 : decode cX10_sheet 68 = .ok (.bipush 60, 2) := by decide +kernel
theorem dX10_sheet_70 : decode cX10_sheet 70 = .ok (.iload_n 1, 1) := by decide +kernel
theorem dX10_sheet_71 : decode cX10_sheet 71 = .ok (.imul, 1) := by decide +kernel
theorem dX10_sheet_72 : decode cX10_sheet 72 = .ok (.iload 4, 2) := by decide +kernel
theorem dX10_sheet_74 : decode cX10_sheet 74 = .ok (.iadd, 1) := by decide +kernel
theorem dX10_sheet_75 : decode cX10_sheet 75 = .ok (.iconst 0, 1) := by decide +kernel
theorem dX10_sheet_76 : decode cX10_sheet 76 = .ok (.iastore, 1) := by decide +kernel
theorem dX10_sheet_77 : decode cX10_sheet 77 = .ok (.iinc 4 1, 3) := by decide +kernel
theorem dX10_sheet_80 : decode cX10_sheet 80 = .ok (.goto (-23), 3) := by decide +kernel
theorem dX10_sheet_83 : decode cX10_sheet 83 = .ok (.iconst 1, 1) := by decide +kernel
theorem dX10_sheet_84 : decode cX10_sheet 84 = .ok (.ireturn, 1) := by decide +kernel
set_option maxRecDepth 20000 in
theorem ggX10_lose_X10_isSheet : GoodIn wsX10_lose wsX10_isSheet := goodIn_r _ [5, 6, 7, 4, 8] (by decide +kernel) (by decide +kernel)
set_option maxRecDepth 20000 in
theorem gX10_lose_X10_isSheet : GoodIn wsX10_lose (va_wsS RX10 83 yX10_isSheet wsX10_isSheet) := goodIn_app (goodIn_of _ (by decide +kernel)) ggX10_lose_X10_isSheet
theorem dX10_lose_0 : decode cX10_lose 0 = .ok (.iload_n 1, 1) := by decide +kernel
theorem dX10_lose_1 : decode cX10_lose 1 = .ok (.invokestatic 83, 3) := by decide +kernel
theorem dX10_lose_4 : decode cX10_lose 4 = .ok (.ifCond .ne 5, 3) := by decide +kernel
theorem dX10_lose_7 : decode cX10_lose 7 = .ok (.iconst (-1), 1) := by decide +kernel
theorem dX10_lose_8 : decode cX10_lose 8 = .ok (.ireturn, 1) := by decide +kernel
theorem dX10_lose_9 : decode cX10_lose 9 = .ok (.aload_n 0, 1) := by decide +kernel
theorem dX10_lose_10 : decode cX10_lose 10 = .ok (.getfield 9, 3) := by decide +kernel
theorem dX10_lose_13 : decode cX10_lose 13 = .ok (.iload_n 1, 1) := by decide +kernel
theorem dX10_lose_14 : decode cX10_lose 14 = .ok (.iaload, 1) := by decide +kernel
theorem dX10_lose_15 : decode cX10_lose 15 = .ok (.bipush (-9), 2) := by decide +kernel
theorem dX10_lose_17 : decode cX10_lose 17 = .ok (.if_icmp .ne 7, 3) := by decide +kernel
theorem dX10_lose_20 : decode cX10_lose 20 = .ok (.iconst 0, 1) := by decide +kernel
theorem dX10_lose_21 : decode cX10_lose 21 = .ok (.goto 4, 3) := by decide +kernel
theorem dX10_lose_24 : decode cX10_lose 24 = .ok (.iconst 1, 1) := by decide +kernel
theorem dX10_lose_25 : decode cX10_lose 25 = .ok (.istore_n 2, 1) := by decide +kernel
theorem dX10_lose_26 : decode cX10_lose 26 = .ok (.aload_n 0, 1) := by decide +kernel
theorem dX10_lose_27 : decode cX10_lose 27 = .ok (.getfield 9, 3) := by decide +kernel
theorem dX10_lose_30 : decode cX10_lose 30 = .ok (.iload_n 1, 1) := by decide +kernel
theorem dX10_lose_31 : decode cX10_lose 31 = .ok (.bipush (-9), 2) := by decide +kernel
theorem dX10_lose_33 : decode cX10_lose 33 = .ok (.iastore, 1) := by decide +kernel
theorem dX10_lose_34 : decode cX10_lose 34 = .ok (.iload_n 2, 1) := by decide +kernel
theorem dX10_lose_35 : decode cX10_lose 35 = .ok (.ireturn, 1) := by decide +kernel
set_option maxRecDepth 20000 in
theorem ggX10_put_X10_isSheet : GoodIn wsX10_put wsX10_isSheet := goodIn_r _ [8, 9, 10, 7, 11] (by decide +kernel) (by decide +kernel)
set_option maxRecDepth 20000 in
theorem gX10_put_X10_isSheet : GoodIn wsX10_put (va_wsS RX10 83 yX10_isSheet wsX10_isSheet) := goodIn_app (goodIn_of _ (by decide +kernel)) ggX10_put_X10_isSheet
set_option maxRecDepth 20000 in
theorem ggX10_put_X10_fails : GoodIn wsX10_put wsX10_fails := goodIn_r _ [15, 1, 16, 17, 18, 19, 20, 21, 22, 23, 24, 25, 26, 27, 28, 29, 30, 31, 32, 33, 34, 35, 36, 37, 38, 39, 40, 41, 42, 43, 44, 45, 46, 47] (by decide +kernel) (by decide +kernel)
set_option maxRecDepth 20000 in
theorem gX10_put_X10_fails : GoodIn wsX10_put (wsV RX10 94 RX10 yX10_fails wsX10_fails) := goodIn_app (goodIn_of _ (by decide +kernel)) ggX10_put_X10_fails
set_option maxRecDepth 20000 in
theorem ggX10_put_X10_within : GoodIn wsX10_put wsX10_within := goodIn_r _ [11] (by decide +kernel) (by decide +kernel)
set_option maxRecDepth 20000 in
theorem gX10_put_X10_within : GoodIn wsX10_put (va_wsS RX10 73 yX10_within wsX10_within) := goodIn_app (goodIn_of _ (by decide +kernel)) ggX10_put_X10_within
theorem dX10_put_0 : decode cX10_put 0 = .ok (.aload_n 0, 1) := by decide +kernel
theorem dX10_put_1 : decode cX10_put 1 = .ok (.iconst 0, 1) := by decide +kernel
theorem dX10_put_2 : decode cX10_put 2 = .ok (.putfield 67, 3) := by decide +kernel
theorem dX10_put_5 : decode cX10_put 5 = .ok (.iload_n 1, 1) := by decide +kernel
theorem dX10_put_6 : decode cX10_put 6 = .ok (.invokestatic 83, 3) := by decide +kernel
theorem dX10_put_9 : decode cX10_put 9 = .ok (.ifCond .ne 5, 3) := by decide +kernel
theorem dX10_put_12 : decode cX10_put 12 = .ok (.iconst (-1), 1) := by decide +kernel
theorem dX10_put_13 : decode cX10_put 13 = .ok (.ireturn, 1) := by decide +kernel
theorem dX10_put_14 : decode cX10_put 14 = .ok (.aload_n 0, 1) := by decide +kernel
theorem dX10_put_15 : decode cX10_put 15 = .ok (.getfield 9, 3) := by decide +kernel
theorem dX10_put_18 : decode cX10_put 18 = .ok (.iload_n 1, 1) := by decide +kernel
theorem dX10_put_19 : decode cX10_put 19 = .ok (.iaload, 1) := by decide +kernel
theorem dX10_put_20 : decode cX10_put 20 = .ok (.bipush (-9), 2) := by decide +kernel
theorem dX10_put_22 : decode cX10_put 22 = .ok (.if_icmp .ne 9, 3) := by decide +kernel
theorem dX10_put_25 : decode cX10_put 25 = .ok (.aload_n 0, 1) := by decide +kernel
theorem dX10_put_26 : decode cX10_put 26 = .ok (.iconst 1, 1) := by decide +kernel
theorem dX10_put_27 : decode cX10_put 27 = .ok (.invokevirtual 94, 3) := by decide +kernel
theorem dX10_put_30 : decode cX10_put 30 = .ok (.ireturn, 1) := by decide +kernel
theorem dX10_put_31 : decode cX10_put 31 = .ok (.iload_n 2, 1) := by decide +kernel
theorem dX10_put_32 : decode cX10_put 32 = .ok (.iconst 0, 1) := by decide +kernel
theorem dX10_put_33 : decode cX10_put 33 = .ok (.aload_n 0, 1) := by decide +kernel
theorem dX10_put_34 : decode cX10_put 34 = .ok (.getfield 13, 3) := by decide +kernel
theorem dX10_put_37 : decode cX10_put 37 = .ok (.iload_n 1, 1) := by decide +kernel
theorem dX10_put_38 : decode cX10_put 38 = .ok (.iaload, 1) := by decide +kernel
theorem dX10_put_39 : decode cX10_put 39 = .ok (.iconst 1, 1) := by decide +kernel
theorem dX10_put_40 : decode cX10_put 40 = .ok (.isub, 1) := by decide +kernel
theorem dX10_put_41 : decode cX10_put 41 = .ok (.invokestatic 73, 3) := by decide +kernel
theorem dX10_put_44 : decode cX10_put 44 = .ok (.ifCond .ne 9, 3) := by decide +kernel
theorem dX10_put_47 : decode cX10_put 47 = .ok (.aload_n 0, 1) := by decide +kernel
theorem dX10_put_48 : decode cX10_put 48 = .ok (.iconst 3, 1) := by decide +kernel
theorem dX10_put_49 : decode cX10_put 49 = .ok (.invokevirtual 94, 3) := by decide +kernel
theorem dX10_put_52 : decode cX10_put 52 = .ok (.ireturn, 1) := by decide +kernel
theorem dX10_put_53 : decode cX10_put 53 = .ok (.aload_n 0, 1) := by decide +kernel
theorem dX10_put_54 : decode cX10_put 54 = .ok (.getfield 16, 3) := by decide +kernel
theorem dX10_put_57 : decode cX10_put 57 = .ok (.bipush 60, 2) := by decide +kernel
theorem dX10_put_59 : decode cX10_put 59 = .ok (.iload_n 1, 1) := by decide +kernel
theorem dX10_put_60 : decode cX10_put 60 = .ok (.imul, 1) := by decide +kernel
theorem dX10_put_61 : decode cX10_put 61 = .ok (.iload_n 2, 1) := by decide +kernel
theorem dX10_put_62 : decode cX10_put 62 = .ok (.iadd, 1) := by decide +kernel
theorem dX10_put_63 : decode cX10_put 63 = .ok (.aload_n 0, 1) := by decide +kernel
theorem dX10_put_64 : decode cX10_put 64 = .ok (.getfield 9, 3) := by decide +kernel
theorem dX10_put_67 : decode cX10_put 67 = .ok (.iload_n 1, 1) := by decide +kernel
theorem dX10_put_68 : decode cX10_put 68 = .ok (.iaload, 1) := by decide +kernel
theorem dX10_put_69 : decode cX10_put 69 = .ok (.ifCond .ne 8, 3) := by decide +kernel
theorem dX10_put_72 : decode cX10_put 72 = .ok (.iload_n 3, 1) := by decide +kernel
theorem dX10_put_73 : decode cX10_put 73 = .ok (.i2b, 1) := by decide +kernel
theorem dX10_put_74 : decode cX10_put 74 = .ok (.goto 19, 3) := by decide +kernel
theorem dX10_put_77 : decode cX10_put 77 = .ok (.aload_n 0, 1) := by decide +kernel
theorem dX10_put_78 : decode cX10_put 78 = .ok (.getfield 9, 3) := by decide +kernel
theorem dX10_put_81 : decode cX10_put 81 = .ok (.iload_n 1, 1) := by decide +kernel
theorem dX10_put_82 : decode cX10_put 82 = .ok (.iaload, 1) := by decide +kernel
theorem dX10_put_83 : decode cX10_put 83 = .ok (.iconst 1, 1) := by decide +kernel
theorem dX10_put_84 : decode cX10_put 84 = .ok (.if_icmp .ne 8, 3) := by decide +kernel
theorem dX10_put_87 : decode cX10_put 87 = .ok (.iload_n 3, 1) := by decide +kernel
theorem dX10_put_88 : decode cX10_put 88 = .ok (.i2s, 1) := by decide +kernel
theorem dX10_put_89 : decode cX10_put 89 = .ok (.goto 4, 3) := by decide +kernel
theorem dX10_put_92 : decode cX10_put 92 = .ok (.iload_n 3, 1) := by decide +kernel
theorem dX10_put_93 : decode cX10_put 93 = .ok (.iastore, 1) := by decide +kernel
theorem dX10_put_94 : decode cX10_put 94 = .ok (.iconst 1, 1) := by decide +kernel
theorem dX10_put_95 : decode cX10_put 95 = .ok (.ireturn, 1) := by decide +kernel
set_option maxRecDepth 20000 in
theorem ggX10_cell_X10_isSheet : GoodIn wsX10_cell wsX10_isSheet := goodIn_r _ [9, 10, 11, 8, 12] (by decide +kernel) (by decide +kernel)
set_option maxRecDepth 20000 in
theorem gX10_cell_X10_isSheet : GoodIn wsX10_cell (va_wsS RX10 83 yX10_isSheet wsX10_isSheet) := goodIn_app (goodIn_of _ (by decide +kernel)) ggX10_cell_X10_isSheet
set_option maxRecDepth 20000 in
theorem ggX10_cell_X10_isSort : GoodIn wsX10_cell wsX10_isSort := goodIn_r _ [15, 10, 11, 8, 12] (by decide +kernel) (by decide +kernel)
set_option maxRecDepth 20000 in
theorem gX10_cell_X10_isSort : GoodIn wsX10_cell (va_wsS RX10 87 yX10_isSort wsX10_isSort) := goodIn_app (goodIn_of _ (by decide +kernel)) ggX10_cell_X10_isSort
set_option maxRecDepth 20000 in
theorem ggX10_cell_X10_lost : GoodIn wsX10_cell wsX10_lost := goodIn_r _ [19, 1, 2, 20, 21, 22, 23, 24, 25, 26, 27, 28, 29, 30, 31, 32, 33, 34, 35, 36, 37, 38, 39, 40, 41, 42, 43, 44, 45, 46, 47, 48, 49, 50, 51] (by decide +kernel) (by decide +kernel)
set_option maxRecDepth 20000 in
theorem gX10_cell_X10_lost : GoodIn wsX10_cell (wsV RX10 216 RX10 yX10_lost wsX10_lost) := goodIn_app (goodIn_of _ (by decide +kernel)) ggX10_cell_X10_lost
set_option maxRecDepth 20000 in
theorem ggX10_cell_X10_within : GoodIn wsX10_cell wsX10_within := goodIn_r _ [12] (by decide +kernel) (by decide +kernel)
set_option maxRecDepth 20000 in
theorem gX10_cell_X10_within : GoodIn wsX10_cell (va_wsS RX10 73 yX10_within wsX10_within) := goodIn_app (goodIn_of _ (by decide +kernel)) ggX10_cell_X10_within
theorem dX10_cell_0 : decode cX10_cell 0 = .ok (.aload_n 0, 1) := by decide +kernel
theorem dX10_cell_1 : decode cX10_cell 1 = .ok (.iconst 0, 1) := by decide +kernel
theorem dX10_cell_2 : decode cX10_cell 2 = .ok (.putfield 67, 3) := by decide +kernel
theorem dX10_cell_5 : decode cX10_cell 5 = .ok (.iload_n 1, 1) := by decide +kernel
theorem dX10_cell_6 : decode cX10_cell 6 = .ok (.invokestatic 83, 3) := by decide +kernel
theorem dX10_cell_9 : decode cX10_cell 9 = .ok (.ifCond .eq 10, 3) := by decide +kernel
theorem dX10_cell_12 : decode cX10_cell 12 = .ok (.iload_n 3, 1) := by decide +kernel
theorem dX10_cell_13 : decode cX10_cell 13 = .ok (.invokestatic 87, 3) := by decide +kernel
theorem dX10_cell_16 : decode cX10_cell 16 = .ok (.ifCond .ne 7, 3) := by decide +kernel
theorem dX10_cell_19 : decode cX10_cell 19 = .ok (.ldc2_w 71, 3) := by decide +kernel
theorem dX10_cell_22 : decode cX10_cell 22 = .ok (.lreturn, 1) := by decide +kernel
theorem dX10_cell_23 : decode cX10_cell 23 = .ok (.aload_n 0, 1) := by decide +kernel
theorem dX10_cell_24 : decode cX10_cell 24 = .ok (.getfield 9, 3) := by decide +kernel
theorem dX10_cell_27 : decode cX10_cell 27 = .ok (.iload_n 1, 1) := by decide +kernel
theorem dX10_cell_28 : decode cX10_cell 28 = .ok (.iaload, 1) := by decide +kernel
theorem dX10_cell_29 : decode cX10_cell 29 = .ok (.bipush (-9), 2) := by decide +kernel
theorem dX10_cell_31 : decode cX10_cell 31 = .ok (.if_icmp .eq 19, 3) := by decide +kernel
theorem dX10_cell_34 : decode cX10_cell 34 = .ok (.aload_n 0, 1) := by decide +kernel
theorem dX10_cell_35 : decode cX10_cell 35 = .ok (.getfield 9, 3) := by decide +kernel
theorem dX10_cell_38 : decode cX10_cell 38 = .ok (.iload_n 1, 1) := by decide +kernel
theorem dX10_cell_39 : decode cX10_cell 39 = .ok (.iaload, 1) := by decide +kernel
theorem dX10_cell_40 : decode cX10_cell 40 = .ok (.iload_n 3, 1) := by decide +kernel
theorem dX10_cell_41 : decode cX10_cell 41 = .ok (.if_icmp .eq 9, 3) := by decide +kernel
theorem dX10_cell_44 : decode cX10_cell 44 = .ok (.aload_n 0, 1) := by decide +kernel
theorem dX10_cell_45 : decode cX10_cell 45 = .ok (.iconst 2, 1) := by decide +kernel
theorem dX10_cell_46 : decode cX10_cell 46 = .ok (.invokevirtual 216, 3) := by decide +kernel
theorem dX10_cell_49 : decode cX10_cell 49 = .ok (.lreturn, 1) := by decide +kernel
theorem dX10_cell_50 : decode cX10_cell 50 = .ok (.aload_n 0, 1) := by decide +kernel
theorem dX10_cell_51 : decode cX10_cell 51 = .ok (.getfield 9, 3) := by decide +kernel
theorem dX10_cell_54 : decode cX10_cell 54 = .ok (.iload_n 1, 1) := by decide +kernel
theorem dX10_cell_55 : decode cX10_cell 55 = .ok (.iaload, 1) := by decide +kernel
theorem dX10_cell_56 : decode cX10_cell 56 = .ok (.bipush (-9), 2) := by decide +kernel
theorem dX10_cell_58 : decode cX10_cell 58 = .ok (.if_icmp .ne 9, 3) := by decide +kernel
theorem dX10_cell_61 : decode cX10_cell 61 = .ok (.aload_n 0, 1) := by decide +kernel
theorem dX10_cell_62 : decode cX10_cell 62 = .ok (.iconst 1, 1) := by decide +kernel
theorem dX10_cell_63 : decode cX10_cell 63 = .ok (.invokevirtual 216, 3) := by decide +kernel
theorem dX10_cell_66 : decode cX10_cell 66 = .ok (.lreturn, 1) := by decide +kernel
theorem dX10_cell_67 : decode cX10_cell 67 = .ok (.iload_n 2, 1) := by decide +kernel
theorem dX10_cell_68 : decode cX10_cell 68 = .ok (.iconst 0, 1) := by decide +kernel
theorem dX10_cell_69 : decode cX10_cell 69 = .ok (.aload_n 0, 1) := by decide +kernel
theorem dX10_cell_70 : decode cX10_cell 70 = .ok (.getfield 13, 3) := by decide +kernel
theorem dX10_cell_73 : decode cX10_cell 73 = .ok (.iload_n 1, 1) := by decide +kernel
theorem dX10_cell_74 : decode cX10_cell 74 = .ok (.iaload, 1) := by decide +kernel
theorem dX10_cell_75 : decode cX10_cell 75 = .ok (.iconst 1, 1) := by decide +kernel
theorem dX10_cell_76 : decode cX10_cell 76 = .ok (.isub, 1) := by decide +kernel
theorem dX10_cell_77 : decode cX10_cell 77 = .ok (.invokestatic 73, 3) := by decide +kernel
theorem dX10_cell_80 : decode cX10_cell 80 = .ok (.ifCond .ne 9, 3) := by decide +kernel
theorem dX10_cell_83 : decode cX10_cell 83 = .ok (.aload_n 0, 1) := by decide +kernel
theorem dX10_cell_84 : decode cX10_cell 84 = .ok (.iconst 3, 1) := by decide +kernel
theorem dX10_cell_85 : decode cX10_cell 85 = .ok (.invokevirtual 216, 3) := by decide +kernel
theorem dX10_cell_88 : decode cX10_cell 88 = .ok (.lreturn, 1) := by decide +kernel
theorem dX10_cell_89 : decode cX10_cell 89 = .ok (.aload_n 0, 1) := by decide +kernel
theorem dX10_cell_90 : decode cX10_cell 90 = .ok (.getfield 16, 3) := by decide +kernel
theorem dX10_cell_93 : decode cX10_cell 93 = .ok (.bipush 60, 2) := by decide +kernel
theorem dX10_cell_95 : decode cX10_cell 95 = .ok (.iload_n 1, 1) := by decide +kernel
theorem dX10_cell_96 : decode cX10_cell 96 = .ok (.imul, 1) := by decide +kernel
theorem dX10_cell_97 : decode cX10_cell 97 = .ok (.iload_n 2, 1) := by decide +kernel
theorem dX10_cell_98 : decode cX10_cell 98 = .ok (.iadd, 1) := by decide +kernel
theorem dX10_cell_99 : decode cX10_cell 99 = .ok (.iaload, 1) := by decide +kernel
theorem dX10_cell_100 : decode cX10_cell 100 = .ok (.i2l, 1) := by decide +kernel
theorem dX10_cell_101 : decode cX10_cell 101 = .ok (.lreturn, 1) := by decide +kernel
set_option maxRecDepth 20000 in
theorem ggX10_copy_X10_isSheet : GoodIn wsX10_copy wsX10_isSheet := goodIn_r _ [8, 9, 10, 7, 11] (by decide +kernel) (by decide +kernel)
set_option maxRecDepth 20000 in
theorem gX10_copy_X10_isSheet : GoodIn wsX10_copy (va_wsS RX10 83 yX10_isSheet wsX10_isSheet) := goodIn_app (goodIn_of _ (by decide +kernel)) ggX10_copy_X10_isSheet
set_option maxRecDepth 20000 in
theorem ggX10_copy_X10_fails : GoodIn wsX10_copy wsX10_fails := goodIn_r _ [15, 1, 16, 17, 18, 19, 20, 21, 22, 23, 24, 25, 26, 27, 28, 29, 30, 31, 32, 33, 34, 35, 36, 37, 38, 39, 40, 41, 42, 43, 44, 45, 46, 47] (by decide +kernel) (by decide +kernel)
set_option maxRecDepth 20000 in
theorem gX10_copy_X10_fails : GoodIn wsX10_copy (wsV RX10 94 RX10 yX10_fails wsX10_fails) := goodIn_app (goodIn_of _ (by decide +kernel)) ggX10_copy_X10_fails
theorem dX10_copy_0 : decode cX10_copy 0 = .ok (.aload_n 0, 1) := by decide +kernel
theorem dX10_copy_1 : decode cX10_copy 1 = .ok (.iconst 0, 1) := by decide +kernel
theorem dX10_copy_2 : decode cX10_copy 2 = .ok (.putfield 67, 3) := by decide +kernel
theorem dX10_copy_5 : decode cX10_copy 5 = .ok (.iload_n 1, 1) := by decide +kernel
theorem dX10_copy_6 : decode cX10_copy 6 = .ok (.invokestatic 83, 3) := by decide +kernel
theorem dX10_copy_9 : decode cX10_copy 9 = .ok (.ifCond .eq 10, 3) := by decide +kernel
theorem dX10_copy_12 : decode cX10_copy 12 = .ok (.iload_n 3, 1) := by decide +kernel
theorem dX10_copy_13 : decode cX10_copy 13 = .ok (.invokestatic 83, 3) := by decide +kernel
theorem dX10_copy_16 : decode cX10_copy 16 = .ok (.ifCond .ne 5, 3) := by decide +kernel
theorem dX10_copy_19 : decode cX10_copy 19 = .ok (.iconst (-1), 1) := by decide +kernel
theorem dX10_copy_20 : decode cX10_copy 20 = .ok (.ireturn, 1) := by decide +kernel
theorem dX10_copy_21 : decode cX10_copy 21 = .ok (.aload_n 0, 1) := by decide +kernel
theorem dX10_copy_22 : decode cX10_copy 22 = .ok (.getfield 9, 3) := by decide +kernel
theorem dX10_copy_25 : decode cX10_copy 25 = .ok (.iload_n 1, 1) := by decide +kernel
theorem dX10_copy_26 : decode cX10_copy 26 = .ok (.iaload, 1) := by decide +kernel
theorem dX10_copy_27 : decode cX10_copy 27 = .ok (.bipush (-9), 2) := by decide +kernel
theorem dX10_copy_29 : decode cX10_copy 29 = .ok (.if_icmp .eq 14, 3) := by decide +kernel
theorem dX10_copy_32 : decode cX10_copy 32 = .ok (.aload_n 0, 1) := by decide +kernel
theorem dX10_copy_33 : decode cX10_copy 33 = .ok (.getfield 9, 3) := by decide +kernel
theorem dX10_copy_36 : decode cX10_copy 36 = .ok (.iload_n 3, 1) := by decide +kernel
theorem dX10_copy_37 : decode cX10_copy 37 = .ok (.iaload, 1) := by decide +kernel
theorem dX10_copy_38 : decode cX10_copy 38 = .ok (.bipush (-9), 2) := by decide +kernel
theorem dX10_copy_40 : decode cX10_copy 40 = .ok (.if_icmp .ne 9, 3) := by decide +kernel
theorem dX10_copy_43 : decode cX10_copy 43 = .ok (.aload_n 0, 1) := by decide +kernel
theorem dX10_copy_44 : decode cX10_copy 44 = .ok (.iconst 1, 1) := by decide +kernel
theorem dX10_copy_45 : decode cX10_copy 45 = .ok (.invokevirtual 94, 3) := by decide +kernel
theorem dX10_copy_48 : decode cX10_copy 48 = .ok (.ireturn, 1) := by decide +kernel
theorem dX10_copy_49 : decode cX10_copy 49 = .ok (.aload_n 0, 1) := by decide +kernel
theorem dX10_copy_50 : decode cX10_copy 50 = .ok (.getfield 9, 3) := by decide +kernel
theorem dX10_copy_53 : decode cX10_copy 53 = .ok (.iload_n 1, 1) := by decide +kernel
theorem dX10_copy_54 : decode cX10_copy 54 = .ok (.iaload, 1) := by decide +kernel
theorem dX10_copy_55 : decode cX10_copy 55 = .ok (.aload_n 0, 1) := by decide +kernel
theorem dX10_copy_56 : decode cX10_copy 56 = .ok (.getfield 9, 3) := by decide +kernel
theorem dX10_copy_59 : decode cX10_copy 59 = .ok (.iload_n 3, 1) := by decide +kernel
theorem dX10_copy_60 : decode cX10_copy 60 = .ok (.iaload, 1) := by decide +kernel
theorem dX10_copy_61 : decode cX10_copy 61 = .ok (.if_icmp .eq 9, 3) := by decide +kernel
theorem dX10_copy_64 : decode cX10_copy 64 = .ok (.aload_n 0, 1) := by decide +kernel
theorem dX10_copy_65 : decode cX10_copy 65 = .ok (.iconst 2, 1) := by decide +kernel
theorem dX10_copy_66 : decode cX10_copy 66 = .ok (.invokevirtual 94, 3) := by decide +kernel
theorem dX10_copy_69 : decode cX10_copy 69 = .ok (.ireturn, 1) := by decide +kernel
theorem dX10_copy_70 : decode cX10_copy 70 = .ok (.iload_n 2, 1) := by decide +kernel
theorem dX10_copy_71 : decode cX10_copy 71 = .ok (.ifCond .lt 38, 3) := by decide +kernel
theorem dX10_copy_74 : decode cX10_copy 74 = .ok (.iload 4, 2) := by decide +kernel
theorem dX10_copy_76 : decode cX10_copy 76 = .ok (.ifCond .lt 33, 3) := by decide +kernel
theorem dX10_copy_79 : decode cX10_copy 79 = .ok (.iload 5, 2) := by decide +kernel
theorem dX10_copy_81 : decode cX10_copy 81 = .ok (.ifCond .lt 28, 3) := by decide +kernel
theorem dX10_copy_84 : decode cX10_copy 84 = .ok (.iload_n 2, 1) := by decide +kernel
theorem dX10_copy_85 : decode cX10_copy 85 = .ok (.aload_n 0, 1) := by decide +kernel
theorem dX10_copy_86 : decode cX10_copy 86 = .ok (.getfield 13, 3) := by decide +kernel
theorem dX10_copy_89 : decode cX10_copy 89 = .ok (.iload_n 1, 1) := by decide +kernel
theorem dX10_copy_90 : decode cX10_copy 90 = .ok (.iaload, 1) := by decide +kernel
theorem dX10_copy_91 : decode cX10_copy 91 = .ok (.if_icmp .gt 18, 3) := by decide +kernel
theorem dX10_copy_94 : decode cX10_copy 94 = .ok (.iload 4, 2) := by decide +kernel
theorem dX10_copy_96 : decode cX10_copy 96 = .ok (.aload_n 0, 1) := by decide +kernel
theorem dX10_copy_97 : decode cX10_copy 97 = .ok (.getfield 13, 3) := by decide +kernel
theorem dX10_copy_100 : decode cX10_copy 100 = .ok (.iload_n 3, 1) := by decide +kernel
theorem dX10_copy_101 : decode cX10_copy 101 = .ok (.iaload, 1) := by decide +kernel
theorem dX10_copy_102 : decode cX10_copy 102 = .ok (.if_icmp .gt 7, 3) := by decide +kernel
theorem dX10_copy_105 : decode cX10_copy 105 = .ok (.iconst 1, 1) := by decide +kernel
theorem dX10_copy_106 : decode cX10_copy 106 = .ok (.goto 4, 3) := by decide +kernel
theorem dX10_copy_109 : decode cX10_copy 109 = .ok (.iconst 0, 1) := by decide +kernel
theorem dX10_copy_110 : decode cX10_copy 110 = .ok (.istore 6, 2) := by decide +kernel
theorem dX10_copy_112 : decode cX10_copy 112 = .ok (.iload 6, 2) := by decide +kernel
theorem dX10_copy_114 : decode cX10_copy 114 = .ok (.ifCond .eq 30, 3) := by decide +kernel
theorem dX10_copy_117 : decode cX10_copy 117 = .ok (.iload 5, 2) := by decide +kernel
theorem dX10_copy_119 : decode cX10_copy 119 = .ok (.aload_n 0, 1) := by decide +kernel
theorem dX10_copy_120 : decode cX10_copy 120 = .ok (.getfield 13, 3) := by decide +kernel
theorem dX10_copy_123 : decode cX10_copy 123 = .ok (.iload_n 1, 1) := by decide +kernel
theorem dX10_copy_124 : decode cX10_copy 124 = .ok (.iaload, 1) := by decide +kernel
theorem dX10_copy_125 : decode cX10_copy 125 = .ok (.iload_n 2, 1) := by decide +kernel
theorem dX10_copy_126 : decode cX10_copy 126 = .ok (.isub, 1) := by decide +kernel
theorem dX10_copy_127 : decode cX10_copy 127 = .ok (.if_icmp .gt 17, 3) := by decide +kernel
theorem dX10_copy_130 : decode cX10_copy 130 = .ok (.iload 5, 2) := by decide +kernel
theorem dX10_copy_132 : decode cX10_copy 132 = .ok (.aload_n 0, 1) := by decide +kernel
theorem dX10_copy_133 : decode cX10_copy 133 = .ok (.getfield 13, 3) := by decide +kernel
theorem dX10_copy_136 : decode cX10_copy 136 = .ok (.iload_n 3, 1) := by decide +kernel
theorem dX10_copy_137 : decode cX10_copy 137 = .ok (.iaload, 1) := by decide +kernel
theorem dX10_copy_138 : decode cX10_copy 138 = .ok (.iload 4, 2) := by decide +kernel
theorem dX10_copy_140 : decode cX10_copy 140 = .ok (.isub, 1) := by decide +kernel
theorem dX10_copy_141 : decode cX10_copy 141 = .ok (.if_icmp .le 9, 3) := by decide +kernel
theorem dX10_copy_144 : decode cX10_copy 144 = .ok (.aload_n 0, 1) := by decide +kernel
theorem dX10_copy_145 : decode cX10_copy 145 = .ok (.iconst 3, 1) := by decide +kernel
theorem dX10_copy_146 : decode cX10_copy 146 = .ok (.invokevirtual 94, 3) := by decide +kernel
theorem dX10_copy_149 : decode cX10_copy 149 = .ok (.ireturn, 1) := by decide +kernel
theorem dX10_copy_150 : decode cX10_copy 150 = .ok (.iload_n 2, 1) := by decide +kernel
theorem dX10_copy_151 : decode cX10_copy 151 = .ok (.iload 4, 2) := by decide +kernel
theorem dX10_copy_153 : decode cX10_copy 153 = .ok (.if_icmp .ge 7, 3) := by decide +kernel
theorem dX10_copy_156 : decode cX10_copy 156 = .ok (.iconst 1, 1) := by decide +kernel
theorem dX10_copy_157 : decode cX10_copy 157 = .ok (.goto 4, 3) := by decide +kernel
theorem dX10_copy_160 : decode cX10_copy 160 = .ok (.iconst 0, 1) := by decide +kernel
theorem dX10_copy_161 : decode cX10_copy 161 = .ok (.istore 7, 2) := by decide +kernel
theorem dX10_copy_163 : decode cX10_copy 163 = .ok (.iconst 0, 1) := by decide +kernel
theorem dX10_copy_164 : decode cX10_copy 164 = .ok (.istore 8, 2) := by decide +kernel
theorem dX10_copy_166 : decode cX10_copy 166 = .ok (.iload 8, 2) := by decide +kernel
theorem dX10_copy_168 : decode cX10_copy 168 = .ok (.iload 5, 2) := by decide +kernel
theorem dX10_copy_170 : decode cX10_copy 170 = .ok (.if_icmp .ge 57, 3) := by decide +kernel
theorem dX10_copy_173 : decode cX10_copy 173 = .ok (.iload 7, 2) := by decide +kernel
theorem dX10_copy_175 : decode cX10_copy 175 = .ok (.ifCond .eq 13, 3) := by decide +kernel
theorem dX10_copy_178 : decode cX10_copy 178 = .ok (.iload 5, 2) := by decide +kernel
theorem dX10_copy_180 : decode cX10_copy 180 = .ok (.iconst 1, 1) := by decide +kernel
theorem dX10_copy_181 : decode cX10_copy 181 = .ok (.isub, 1) := by decide +kernel
theorem dX10_copy_182 : decode cX10_copy 182 = .ok (.iload 8, 2) := by decide +kernel
theorem dX10_copy_184 : decode cX10_copy 184 = .ok (.isub, 1) := by decide +kernel
theorem dX10_copy_185 : decode cX10_copy 185 = .ok (.goto 5, 3) := by decide +kernel
theorem dX10_copy_188 : decode cX10_copy 188 = .ok (.iload 8, 2) := by decide +kernel
theorem dX10_copy_190 : decode cX10_copy 190 = .ok (.istore 9, 2) := by decide +kernel
theorem dX10_copy_192 : decode cX10_copy 192 = .ok (.aload_n 0, 1) := by decide +kernel
theorem dX10_copy_193 : decode cX10_copy 193 = .ok (.getfield 16, 3) := by decide +kernel
theorem dX10_copy_196 : decode cX10_copy 196 = .ok (.bipush 60, 2) := by decide +kernel
theorem dX10_copy_198 : decode cX10_copy 198 = .ok (.iload_n 3, 1) := by decide +kernel
theorem dX10_copy_199 : decode cX10_copy 199 = .ok (.imul, 1) := by decide +kernel
theorem dX10_copy_200 : decode cX10_copy 200 = .ok (.iload 4, 2) := by decide +kernel
theorem dX10_copy_202 : decode cX10_copy 202 = .ok (.iadd, 1) := by decide +kernel
theorem dX10_copy_203 : decode cX10_copy 203 = .ok (.iload 9, 2) := by decide +kernel
theorem dX10_copy_205 : decode cX10_copy 205 = .ok (.iadd, 1) := by decide +kernel
theorem dX10_copy_206 : decode cX10_copy 206 = .ok (.aload_n 0, 1) := by decide +kernel
theorem dX10_copy_207 : decode cX10_copy 207 = .ok (.getfield 16, 3) := by decide +kernel
theorem dX10_copy_210 : decode cX10_copy 210 = .ok (.bipush 60, 2) := by decide +kernel
theorem dX10_copy_212 : decode cX10_copy 212 = .ok (.iload_n 1, 1) := by decide +kernel
theorem dX10_copy_213 : decode cX10_copy 213 = .ok (.imul, 1) := by decide +kernel
theorem dX10_copy_214 : decode cX10_copy 214 = .ok (.iload_n 2, 1) := by decide +kernel
theorem dX10_copy_215 : decode cX10_copy 215 = .ok (.iadd, 1) := by decide +kernel
theorem dX10_copy_216 : decode cX10_copy 216 = .ok (.iload 9, 2) := by decide +kernel
theorem dX10_copy_218 : decode cX10_copy 218 = .ok (.iadd, 1) := by decide +kernel
theorem dX10_copy_219 : decode cX10_copy 219 = .ok (.iaload, 1) := by decide +kernel
theorem dX10_copy_220 : decode cX10_copy 220 = .ok (.iastore, 1) := by decide +kernel
theorem dX10_copy_221 : decode cX10_copy 221 = .ok (.iinc 8 1, 3) := by decide +kernel
theorem dX10_copy_224 : decode cX10_copy 224 = .ok (.goto (-58), 3) := by decide +kernel
theorem dX10_copy_227 : decode cX10_copy 227 = .ok (.iload 5, 2) := by decide +kernel
theorem dX10_copy_229 : decode cX10_copy 229 = .ok (.ireturn, 1) := by decide +kernel
theorem dX10_begins_0 : decode cX10_begins 0 = .ok (.aload_n 0, 1) := by decide +kernel
theorem dX10_begins_1 : decode cX10_begins 1 = .ok (.bipush 31, 2) := by decide +kernel
theorem dX10_begins_3 : decode cX10_begins 3 = .ok (.aload_n 0, 1) := by decide +kernel
theorem dX10_begins_4 : decode cX10_begins 4 = .ok (.getfield 220, 3) := by decide +kernel
theorem dX10_begins_7 : decode cX10_begins 7 = .ok (.imul, 1) := by decide +kernel
theorem dX10_begins_8 : decode cX10_begins 8 = .ok (.iload_n 1, 1) := by decide +kernel
theorem dX10_begins_9 : decode cX10_begins 9 = .ok (.iadd, 1) := by decide +kernel
theorem dX10_begins_10 : decode cX10_begins 10 = .ok (.putfield 220, 3) := by decide +kernel
theorem dX10_begins_13 : decode cX10_begins 13 = .ok (.return_, 1) := by decide +kernel
set_option maxRecDepth 20000 in
theorem ggX10_tell_X10_isPerson : GoodIn wsX10_tell wsX10_isPerson := goodIn_r _ [7, 8, 14, 15, 16, 17, 18, 19, 20, 21, 22, 23, 24, 25, 26, 27, 28, 29, 30, 31, 32, 33, 34, 35, 36, 37, 38, 39, 40, 41, 42, 43, 44, 45] (by decide +kernel) (by decide +kernel)
set_option maxRecDepth 20000 in
theorem gX10_tell_X10_isPerson : GoodIn wsX10_tell (wsV RX10 133 RX10 yX10_isPerson wsX10_isPerson) := goodIn_app (goodIn_of _ (by decide +kernel)) ggX10_tell_X10_isPerson
set_option maxRecDepth 20000 in
theorem ggX10_tell_X10_begins : GoodIn wsX10_tell wsX10_begins := goodIn_r _ [12, 13, 14, 15, 16, 17, 18, 19, 20, 21, 22, 23, 24, 25, 26, 27, 28, 29, 30, 31, 32, 33, 34, 35, 36, 37, 38, 39, 40, 41, 42, 43, 44, 45] (by decide +kernel) (by decide +kernel)
set_option maxRecDepth 20000 in
theorem gX10_tell_X10_begins : GoodIn wsX10_tell (wsV RX10 223 RX10 yX10_begins wsX10_begins) := goodIn_app (goodIn_of _ (by decide +kernel)) ggX10_tell_X10_begins
theorem dX10_tell_0 : decode cX10_tell 0 = .ok (.aload_n 0, 1) := by decide +kernel
theorem dX10_tell_1 : decode cX10_tell 1 = .ok (.iload_n 1, 1) := by decide +kernel
theorem dX10_tell_2 : decode cX10_tell 2 = .ok (.invokevirtual 133, 3) := by decide +kernel
theorem dX10_tell_5 : decode cX10_tell 5 = .ok (.ifCond .ne 5, 3) := by decide +kernel
theorem dX10_tell_8 : decode cX10_tell 8 = .ok (.iconst (-1), 1) := by decide +kernel
theorem dX10_tell_9 : decode cX10_tell 9 = .ok (.ireturn, 1) := by decide +kernel
theorem dX10_tell_10 : decode cX10_tell 10 = .ok (.aload_n 0, 1) := by decide +kernel
theorem dX10_tell_11 : decode cX10_tell 11 = .ok (.getfield 31, 3) := by decide +kernel
theorem dX10_tell_14 : decode cX10_tell 14 = .ok (.iload_n 1, 1) := by decide +kernel
theorem dX10_tell_15 : decode cX10_tell 15 = .ok (.iaload, 1) := by decide +kernel
theorem dX10_tell_16 : decode cX10_tell 16 = .ok (.istore_n 2, 1) := by decide +kernel
theorem dX10_tell_17 : decode cX10_tell 17 = .ok (.aload_n 0, 1) := by decide +kernel
theorem dX10_tell_18 : decode cX10_tell 18 = .ok (.getfield 22, 3) := by decide +kernel
theorem dX10_tell_21 : decode cX10_tell 21 = .ok (.iload_n 1, 1) := by decide +kernel
theorem dX10_tell_22 : decode cX10_tell 22 = .ok (.iaload, 1) := by decide +kernel
theorem dX10_tell_23 : decode cX10_tell 23 = .ok (.lookupswitch 67 #[(1, 25), (2, 40)], 25) := by decide +kernel
theorem dX10_tell_48 : decode cX10_tell 48 = .ok (.aload_n 0, 1) := by decide +kernel
theorem dX10_tell_49 : decode cX10_tell 49 = .ok (.iconst 2, 1) := by decide +kernel
theorem dX10_tell_50 : decode cX10_tell 50 = .ok (.invokevirtual 223, 3) := by decide +kernel
theorem dX10_tell_53 : decode cX10_tell 53 = .ok (.aload_n 0, 1) := by decide +kernel
theorem dX10_tell_54 : decode cX10_tell 54 = .ok (.iconst 1, 1) := by decide +kernel
theorem dX10_tell_55 : decode cX10_tell 55 = .ok (.invokevirtual 223, 3) := by decide +kernel
theorem dX10_tell_58 : decode cX10_tell 58 = .ok (.iload_n 2, 1) := by decide +kernel
theorem dX10_tell_59 : decode cX10_tell 59 = .ok (.bipush 100, 2) := by decide +kernel
theorem dX10_tell_61 : decode cX10_tell 61 = .ok (.iadd, 1) := by decide +kernel
theorem dX10_tell_62 : decode cX10_tell 62 = .ok (.ireturn, 1) := by decide +kernel
theorem dX10_tell_63 : decode cX10_tell 63 = .ok (.aload_n 0, 1) := by decide +kernel
theorem dX10_tell_64 : decode cX10_tell 64 = .ok (.iconst 3, 1) := by decide +kernel
theorem dX10_tell_65 : decode cX10_tell 65 = .ok (.invokevirtual 223, 3) := by decide +kernel
theorem dX10_tell_68 : decode cX10_tell 68 = .ok (.aload_n 0, 1) := by decide +kernel
theorem dX10_tell_69 : decode cX10_tell 69 = .ok (.iconst 2, 1) := by decide +kernel
theorem dX10_tell_70 : decode cX10_tell 70 = .ok (.invokevirtual 223, 3) := by decide +kernel
theorem dX10_tell_73 : decode cX10_tell 73 = .ok (.aload_n 0, 1) := by decide +kernel
theorem dX10_tell_74 : decode cX10_tell 74 = .ok (.iconst 1, 1) := by decide +kernel
theorem dX10_tell_75 : decode cX10_tell 75 = .ok (.invokevirtual 223, 3) := by decide +kernel
theorem dX10_tell_78 : decode cX10_tell 78 = .ok (.aload_n 0, 1) := by decide +kernel
theorem dX10_tell_79 : decode cX10_tell 79 = .ok (.iconst 1, 1) := by decide +kernel
theorem dX10_tell_80 : decode cX10_tell 80 = .ok (.invokevirtual 223, 3) := by decide +kernel
theorem dX10_tell_83 : decode cX10_tell 83 = .ok (.iconst 2, 1) := by decide +kernel
theorem dX10_tell_84 : decode cX10_tell 84 = .ok (.iload_n 2, 1) := by decide +kernel
theorem dX10_tell_85 : decode cX10_tell 85 = .ok (.imul, 1) := by decide +kernel
theorem dX10_tell_86 : decode cX10_tell 86 = .ok (.bipush 100, 2) := by decide +kernel
theorem dX10_tell_88 : decode cX10_tell 88 = .ok (.iadd, 1) := by decide +kernel
theorem dX10_tell_89 : decode cX10_tell 89 = .ok (.ireturn, 1) := by decide +kernel
theorem dX10_tell_90 : decode cX10_tell 90 = .ok (.aload_n 0, 1) := by decide +kernel
theorem dX10_tell_91 : decode cX10_tell 91 = .ok (.iconst 1, 1) := by decide +kernel
theorem dX10_tell_92 : decode cX10_tell 92 = .ok (.invokevirtual 223, 3) := by decide +kernel
theorem dX10_tell_95 : decode cX10_tell 95 = .ok (.iload_n 2, 1) := by decide +kernel
theorem dX10_tell_96 : decode cX10_tell 96 = .ok (.ireturn, 1) := by decide +kernel
set_option maxRecDepth 20000 in
theorem ggX10_greet_X10_isPerson : GoodIn wsX10_greet wsX10_isPerson := goodIn_r _ [7, 8, 14, 15, 16, 17, 18, 19, 20, 21, 22, 23, 24, 25, 26, 27, 28, 29, 30, 31, 32, 33, 34, 35, 36, 37, 38, 39, 40, 41, 42, 43, 44, 45] (by decide +kernel) (by decide +kernel)
set_option maxRecDepth 20000 in
theorem gX10_greet_X10_isPerson : GoodIn wsX10_greet (wsV RX10 133 RX10 yX10_isPerson wsX10_isPerson) := goodIn_app (goodIn_of _ (by decide +kernel)) ggX10_greet_X10_isPerson
set_option maxRecDepth 20000 in
theorem ggX10_greet_X10_begins : GoodIn wsX10_greet wsX10_begins := goodIn_r _ [12, 13, 14, 15, 16, 17, 18, 19, 20, 21, 22, 23, 24, 25, 26, 27, 28, 29, 30, 31, 32, 33, 34, 35, 36, 37, 38, 39, 40, 41, 42, 43, 44, 45] (by decide +kernel) (by decide +kernel)
set_option maxRecDepth 20000 in
theorem gX10_greet_X10_begins : GoodIn wsX10_greet (wsV RX10 223 RX10 yX10_begins wsX10_begins) := goodIn_app (goodIn_of _ (by decide +kernel)) ggX10_greet_X10_begins
theorem dX10_greet_0 : decode cX10_greet 0 = .ok (.aload_n 0, 1) := by decide +kernel
theorem dX10_greet_1 : decode cX10_greet 1 = .ok (.iload_n 1, 1) := by decide +kernel
theorem dX10_greet_2 : decode cX10_greet 2 = .ok (.invokevirtual 133, 3) := by decide +kernel
theorem dX10_greet_5 : decode cX10_greet 5 = .ok (.ifCond .ne 5, 3) := by decide +kernel
theorem dX10_greet_8 : decode cX10_greet 8 = .ok (.iconst (-1), 1) := by decide +kernel
theorem dX10_greet_9 : decode cX10_greet 9 = .ok (.ireturn, 1) := by decide +kernel
theorem dX10_greet_10 : decode cX10_greet 10 = .ok (.aload_n 0, 1) := by decide +kernel
theorem dX10_greet_11 : decode cX10_greet 11 = .ok (.aload_n 0, 1) := by decide +kernel
theorem dX10_greet_12 : decode cX10_greet 12 = .ok (.getfield 22, 3) := by decide +kernel
theorem dX10_greet_15 : decode cX10_greet 15 = .ok (.iload_n 1, 1) := by decide +kernel
theorem dX10_greet_16 : decode cX10_greet 16 = .ok (.iaload, 1) := by decide +kernel
theorem dX10_greet_17 : decode cX10_greet 17 = .ok (.iconst 2, 1) := by decide +kernel
theorem dX10_greet_18 : decode cX10_greet 18 = .ok (.if_icmp .ne 7, 3) := by decide +kernel
theorem dX10_greet_21 : decode cX10_greet 21 = .ok (.iconst 5, 1) := by decide +kernel
theorem dX10_greet_22 : decode cX10_greet 22 = .ok (.goto 4, 3) := by decide +kernel
theorem dX10_greet_25 : decode cX10_greet 25 = .ok (.iconst 4, 1) := by decide +kernel
theorem dX10_greet_26 : decode cX10_greet 26 = .ok (.invokevirtual 223, 3) := by decide +kernel
theorem dX10_greet_29 : decode cX10_greet 29 = .ok (.aload_n 0, 1) := by decide +kernel
theorem dX10_greet_30 : decode cX10_greet 30 = .ok (.getfield 22, 3) := by decide +kernel
theorem dX10_greet_33 : decode cX10_greet 33 = .ok (.iload_n 1, 1) := by decide +kernel
theorem dX10_greet_34 : decode cX10_greet 34 = .ok (.iaload, 1) := by decide +kernel
theorem dX10_greet_35 : decode cX10_greet 35 = .ok (.iconst 2, 1) := by decide +kernel
theorem dX10_greet_36 : decode cX10_greet 36 = .ok (.if_icmp .ne 8, 3) := by decide +kernel
theorem dX10_greet_39 : decode cX10_greet 39 = .ok (.bipush 40, 2) := by decide +kernel
theorem dX10_greet_41 : decode cX10_greet 41 = .ok (.goto 9, 3) := by decide +kernel
theorem dX10_greet_44 : decode cX10_greet 44 = .ok (.aload_n 0, 1) := by decide +kernel
theorem dX10_greet_45 : decode cX10_greet 45 = .ok (.getfield 25, 3) := by decide +kernel
theorem dX10_greet_48 : decode cX10_greet 48 = .ok (.iload_n 1, 1) := by decide +kernel
theorem dX10_greet_49 : decode cX10_greet 49 = .ok (.iaload, 1) := by decide +kernel
theorem dX10_greet_50 : decode cX10_greet 50 = .ok (.ireturn, 1) := by decide +kernel
set_option maxRecDepth 20000 in
theorem ggX10_as_X10_isPerson : GoodIn wsX10_as wsX10_isPerson := goodIn_r _ [7, 8, 16, 17, 18, 19, 20, 21, 22, 23, 24, 25, 26, 27, 28, 29, 30, 31, 32, 33, 34, 35, 36, 37, 38, 39, 40, 41, 42, 43, 44, 45, 46, 47] (by decide +kernel) (by decide +kernel)
set_option maxRecDepth 20000 in
theorem gX10_as_X10_isPerson : GoodIn wsX10_as (wsV RX10 133 RX10 yX10_isPerson wsX10_isPerson) := goodIn_app (goodIn_of _ (by decide +kernel)) ggX10_as_X10_isPerson
set_option maxRecDepth 20000 in
theorem ggX10_as_X10_within : GoodIn wsX10_as wsX10_within := goodIn_r _ [11] (by decide +kernel) (by decide +kernel)
set_option maxRecDepth 20000 in
theorem gX10_as_X10_within : GoodIn wsX10_as (va_wsS RX10 73 yX10_within wsX10_within) := goodIn_app (goodIn_of _ (by decide +kernel)) ggX10_as_X10_within
set_option maxRecDepth 20000 in
theorem ggX10_as_X10_fails : GoodIn wsX10_as wsX10_fails := goodIn_r _ [15, 1, 16, 17, 18, 19, 20, 21, 22, 23, 24, 25, 26, 27, 28, 29, 30, 31, 32, 33, 34, 35, 36, 37, 38, 39, 40, 41, 42, 43, 44, 45, 46, 47] (by decide +kernel) (by decide +kernel)
set_option maxRecDepth 20000 in
theorem gX10_as_X10_fails : GoodIn wsX10_as (wsV RX10 94 RX10 yX10_fails wsX10_fails) := goodIn_app (goodIn_of _ (by decide +kernel)) ggX10_as_X10_fails
theorem dX10_as_0 : decode cX10_as 0 = .ok (.aload_n 0, 1) := by decide +kernel
theorem dX10_as_1 : decode cX10_as 1 = .ok (.iconst 0, 1) := by decide +kernel
theorem dX10_as_2 : decode cX10_as 2 = .ok (.putfield 67, 3) := by decide +kernel
theorem dX10_as_5 : decode cX10_as 5 = .ok (.aload_n 0, 1) := by decide +kernel
theorem dX10_as_6 : decode cX10_as 6 = .ok (.iload_n 1, 1) := by decide +kernel
theorem dX10_as_7 : decode cX10_as 7 = .ok (.invokevirtual 133, 3) := by decide +kernel
theorem dX10_as_10 : decode cX10_as 10 = .ok (.ifCond .ne 5, 3) := by decide +kernel
theorem dX10_as_13 : decode cX10_as 13 = .ok (.iconst (-1), 1) := by decide +kernel
theorem dX10_as_14 : decode cX10_as 14 = .ok (.ireturn, 1) := by decide +kernel
theorem dX10_as_15 : decode cX10_as 15 = .ok (.iload_n 2, 1) := by decide +kernel
theorem dX10_as_16 : decode cX10_as 16 = .ok (.iconst 0, 1) := by decide +kernel
theorem dX10_as_17 : decode cX10_as 17 = .ok (.iconst 2, 1) := by decide +kernel
theorem dX10_as_18 : decode cX10_as 18 = .ok (.invokestatic 73, 3) := by decide +kernel
theorem dX10_as_21 : decode cX10_as 21 = .ok (.ifCond .ne 6, 3) := by decide +kernel
theorem dX10_as_24 : decode cX10_as 24 = .ok (.bipush (-2), 2) := by decide +kernel
theorem dX10_as_26 : decode cX10_as 26 = .ok (.ireturn, 1) := by decide +kernel
theorem dX10_as_27 : decode cX10_as 27 = .ok (.aload_n 0, 1) := by decide +kernel
theorem dX10_as_28 : decode cX10_as 28 = .ok (.getfield 22, 3) := by decide +kernel
theorem dX10_as_31 : decode cX10_as 31 = .ok (.iload_n 1, 1) := by decide +kernel
theorem dX10_as_32 : decode cX10_as 32 = .ok (.iaload, 1) := by decide +kernel
theorem dX10_as_33 : decode cX10_as 33 = .ok (.iload_n 2, 1) := by decide +kernel
theorem dX10_as_34 : decode cX10_as 34 = .ok (.if_icmp .lt 7, 3) := by decide +kernel
theorem dX10_as_37 : decode cX10_as 37 = .ok (.iconst 1, 1) := by decide +kernel
theorem dX10_as_38 : decode cX10_as 38 = .ok (.goto 8, 3) := by decide +kernel
theorem dX10_as_41 : decode cX10_as 41 = .ok (.aload_n 0, 1) := by decide +kernel
theorem dX10_as_42 : decode cX10_as 42 = .ok (.iconst 2, 1) := by decide +kernel
theorem dX10_as_43 : decode cX10_as 43 = .ok (.invokevirtual 94, 3) := by decide +kernel
theorem dX10_as_46 : decode cX10_as 46 = .ok (.ireturn, 1) := by decide +kernel
theorem dX10_trace_0 : decode cX10_trace 0 = .ok (.aload_n 0, 1) := by decide +kernel
theorem dX10_trace_1 : decode cX10_trace 1 = .ok (.getfield 220, 3) := by decide +kernel
theorem dX10_trace_4 : decode cX10_trace 4 = .ok (.ireturn, 1) := by decide +kernel
theorem dX10_fault_0 : decode cX10_fault 0 = .ok (.aload_n 0, 1) := by decide +kernel
theorem dX10_fault_1 : decode cX10_fault 1 = .ok (.getfield 67, 3) := by decide +kernel
theorem dX10_fault_4 : decode cX10_fault 4 = .ok (.ireturn, 1) := by decide +kernel
theorem dX10_many_0 : decode cX10_many 0 = .ok (.iload_n 1, 1) := by decide +kernel
theorem dX10_many_1 : decode cX10_many 1 = .ok (.tableswitch 51 0 3 #[31, 36, 41, 46], 31) := by decide +kernel
theorem dX10_many_32 : decode cX10_many 32 = .ok (.aload_n 0, 1) := by decide +kernel
theorem dX10_many_33 : decode cX10_many 33 = .ok (.getfield 77, 3) := by decide +kernel
theorem dX10_many_36 : decode cX10_many 36 = .ok (.ireturn, 1) := by decide +kernel
theorem dX10_many_37 : decode cX10_many 37 = .ok (.aload_n 0, 1) := by decide +kernel
theorem dX10_many_38 : decode cX10_many 38 = .ok (.getfield 107, 3) := by decide +kernel
theorem dX10_many_41 : decode cX10_many 41 = .ok (.ireturn, 1) := by decide +kernel
theorem dX10_many_42 : decode cX10_many 42 = .ok (.aload_n 0, 1) := by decide +kernel
theorem dX10_many_43 : decode cX10_many 43 = .ok (.getfield 110, 3) := by decide +kernel
theorem dX10_many_46 : decode cX10_many 46 = .ok (.ireturn, 1) := by decide +kernel
theorem dX10_many_47 : decode cX10_many 47 = .ok (.aload_n 0, 1) := by decide +kernel
theorem dX10_many_48 : decode cX10_many 48 = .ok (.getfield 113, 3) := by decide +kernel
theorem dX10_many_51 : decode cX10_many 51 = .ok (.ireturn, 1) := by decide +kernel
theorem dX10_many_52 : decode cX10_many 52 = .ok (.bipush (-2), 2) := by decide +kernel
theorem dX10_many_54 : decode cX10_many 54 = .ok (.ireturn, 1) := by decide +kernel
