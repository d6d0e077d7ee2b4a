theorem dX9_init_0 : decode cX9_init 0 = .ok (.aload_n 0, 1) := by decide +kernel
theorem dX9_init_1 : decode cX9_init 1 = .ok (.invokespecial 3, 3) := by decide +kernel
theorem dX9_init_4 : decode cX9_init 4 = .ok (.aload_n 0, 1) := by decide +kernel
theorem dX9_init_5 : decode cX9_init 5 = .ok (.iconst 4, 1) := by decide +kernel
theorem dX9_init_6 : decode cX9_init 6 = .ok (.anewarray 11, 3) := by decide +kernel
theorem dX9_init_9 : decode cX9_init 9 = .ok (.putfield 13, 3) := by decide +kernel
theorem dX9_init_12 : decode cX9_init 12 = .ok (.aload_n 0, 1) := by decide +kernel
theorem dX9_init_13 : decode cX9_init 13 = .ok (.new 17, 3) := by decide +kernel
theorem dX9_init_16 : decode cX9_init 16 = .ok (.dup, 1) := by decide +kernel
theorem dX9_init_17 : decode cX9_init 17 = .ok (.invokespecial 19, 3) := by decide +kernel
theorem dX9_init_20 : decode cX9_init 20 = .ok (.putfield 20, 3) := by decide +kernel
theorem dX9_init_23 : decode cX9_init 23 = .ok (.aload_n 0, 1) := by decide +kernel
theorem dX9_init_24 : decode cX9_init 24 = .ok (.new 17, 3) := by decide +kernel
theorem dX9_init_27 : decode cX9_init 27 = .ok (.dup, 1) := by decide +kernel
theorem dX9_init_28 : decode cX9_init 28 = .ok (.invokespecial 19, 3) := by decide +kernel
theorem dX9_init_31 : decode cX9_init 31 = .ok (.putfield 24, 3) := by decide +kernel
theorem dX9_init_34 : decode cX9_init 34 = .ok (.aload_n 0, 1) := by decide +kernel
theorem dX9_init_35 : decode cX9_init 35 = .ok (.new 27, 3) := by decide +kernel
theorem dX9_init_38 : decode cX9_init 38 = .ok (.dup, 1) := by decide +kernel
theorem dX9_init_39 : decode cX9_init 39 = .ok (.invokespecial 29, 3) := by decide +kernel
theorem dX9_init_42 : decode cX9_init 42 = .ok (.putfield 30, 3) := by decide +kernel
theorem dX9_init_45 : decode cX9_init 45 = .ok (.aload_n 0, 1) := by decide +kernel
theorem dX9_init_46 : decode cX9_init 46 = .ok (.new 34, 3) := by decide +kernel
theorem dX9_init_49 : decode cX9_init 49 = .ok (.dup, 1) := by decide +kernel
theorem dX9_init_50 : decode cX9_init 50 = .ok (.invokespecial 36, 3) := by decide +kernel
theorem dX9_init_53 : decode cX9_init 53 = .ok (.putfield 37, 3) := by decide +kernel
theorem dX9_init_56 : decode cX9_init 56 = .ok (.aload_n 0, 1) := by decide +kernel
theorem dX9_init_57 : decode cX9_init 57 = .ok (.new 41, 3) := by decide +kernel
theorem dX9_init_60 : decode cX9_init 60 = .ok (.dup, 1) := by decide +kernel
theorem dX9_init_61 : decode cX9_init 61 = .ok (.invokespecial 43, 3) := by decide +kernel
theorem dX9_init_64 : decode cX9_init 64 = .ok (.putfield 44, 3) := by decide +kernel
theorem dX9_init_67 : decode cX9_init 67 = .ok (.aload_n 0, 1) := by decide +kernel
theorem dX9_init_68 : decode cX9_init 68 = .ok (.new 48, 3) := by decide +kernel
theorem dX9_init_71 : decode cX9_init 71 = .ok (.dup, 1) := by decide +kernel
theorem dX9_init_72 : decode cX9_init 72 = .ok (.invokespecial 50, 3) := by decide +kernel
theorem dX9_init_75 : decode cX9_init 75 = .ok (.putfield 51, 3) := by decide +kernel
theorem dX9_init_78 : decode cX9_init 78 = .ok (.aload_n 0, 1) := by decide +kernel
theorem dX9_init_79 : decode cX9_init 79 = .ok (.new 55, 3) := by decide +kernel
theorem dX9_init_82 : decode cX9_init 82 = .ok (.dup, 1) := by decide +kernel
theorem dX9_init_83 : decode cX9_init 83 = .ok (.invokespecial 57, 3) := by decide +kernel
theorem dX9_init_86 : decode cX9_init 86 = .ok (.putfield 58, 3) := by decide +kernel
theorem dX9_init_89 : decode cX9_init 89 = .ok (.aload_n 0, 1) := by decide +kernel
theorem dX9_init_90 : decode cX9_init 90 = .ok (.iconst 0, 1) := by decide +kernel
theorem dX9_init_91 : decode cX9_init 91 = .ok (.putfield 62, 3) := by decide +kernel
theorem dX9_init_94 : decode cX9_init 94 = .ok (.aload_n 0, 1) := by decide +kernel
theorem dX9_init_95 : decode cX9_init 95 = .ok (.iconst 0, 1) := by decide +kernel
theorem dX9_init_96 : decode cX9_init 96 = .ok (.putfield 66, 3) := by decide +kernel
theorem dX9_init_99 : decode cX9_init 99 = .ok (.aload_n 0, 1) := by decide +kernel
theorem dX9_init_100 : decode cX9_init 100 = .ok (.iconst 0, 1) := by decide +kernel
theorem dX9_init_101 : decode cX9_init 101 = .ok (.putfield 69, 3) := by decide +kernel
theorem dX9_init_104 : decode cX9_init 104 = .ok (.iconst 0, 1) := by decide +kernel
theorem dX9_init_105 : decode cX9_init 105 = .ok (.istore_n 1, 1) := by decide +kernel
theorem dX9_init_106 : decode cX9_init 106 = .ok (.iload_n 1, 1) := by decide +kernel
theorem dX9_init_107 : decode cX9_init 107 = .ok (.iconst 4, 1) := by decide +kernel
theorem dX9_init_108 : decode cX9_init 108 = .ok (.if_icmp .ge 22, 3) := by decide +kernel
theorem dX9_init_111 : decode cX9_init 111 = .ok (.aload_n 0, 1) := by decide +kernel
theorem dX9_init_112 : decode cX9_init 112 = .ok (.getfield 13, 3) := by decide +kernel
theorem dX9_init_115 : decode cX9_init 115 = .ok (.iload_n 1, 1) := by decide +kernel
theorem dX9_init_116 : decode cX9_init 116 = .ok (.new 11, 3) := by decide +kernel
theorem dX9_init_119 : decode cX9_init 119 = .ok (.dup, 1) := by decide +kernel
theorem dX9_init_120 : decode cX9_init 120 = .ok (.invokespecial 72, 3) := by decide +kernel
theorem dX9_init_123 : decode cX9_init 123 = .ok (.aastore, 1) := by decide +kernel
theorem dX9_init_124 : decode cX9_init 124 = .ok (.iinc 1 1, 3) := by decide +kernel
theorem dX9_init_127 : decode cX9_init 127 = .ok (.goto (-21), 3) := by decide +kernel
theorem dX9_init_130 : decode cX9_init 130 = .ok (.return_, 1) := by decide +kernel
set_option maxRecDepth 20000 in
theorem ggX9_province_X9_isSheet : GoodIn wsX9_province wsX9_isSheet := goodIn_r _ [12, 13, 14, 11, 15] (by decide +kernel) (by decide +kernel)
set_option maxRecDepth 20000 in
theorem gX9_province_X9_isSheet : GoodIn wsX9_province (va_wsS RX9 73 yX9_isSheet wsX9_isSheet) := goodIn_app (goodIn_of _ (by decide +kernel)) ggX9_province_X9_isSheet
set_option maxRecDepth 20000 in
theorem ggX9_province_X9_isLane : GoodIn wsX9_province wsX9_isLane := goodIn_r _ [18] (by decide +kernel) (by decide +kernel)
set_option maxRecDepth 20000 in
theorem gX9_province_X9_isLane : GoodIn wsX9_province (va_wsS RX9 77 yX9_isLane wsX9_isLane) := goodIn_app (goodIn_of _ (by decide +kernel)) ggX9_province_X9_isLane
set_option maxRecDepth 20000 in
theorem ggX9_province_X6_faultAs : GoodIn wsX9_province wsX6_faultAs := goodIn_r _ [23, 24, 25, 77, 78, 79, 80] (by decide +kernel) (by decide +kernel)
set_option maxRecDepth 20000 in
theorem gX9_province_X6_faultAs : GoodIn wsX9_province (wsV RX9 80 RX6 yX6_faultAs wsX6_faultAs) := goodIn_app (goodIn_of _ (by decide +kernel)) ggX9_province_X6_faultAs
set_option maxRecDepth 20000 in
theorem ggX9_province_X6_holds : GoodIn wsX9_province wsX6_holds := goodIn_r _ [29, 30, 77, 78, 79, 80] (by decide +kernel) (by decide +kernel)
set_option maxRecDepth 20000 in
theorem gX9_province_X6_holds : GoodIn wsX9_province (wsV RX9 84 RX6 yX6_holds wsX6_holds) := goodIn_app (goodIn_of _ (by decide +kernel)) ggX9_province_X6_holds
set_option maxRecDepth 20000 in
theorem ggX9_province_X9_failed : GoodIn wsX9_province wsX9_failed := goodIn_r _ [34, 1, 59, 60, 61, 62, 63, 64, 65, 66, 67, 68, 69] (by decide +kernel) (by decide +kernel)
set_option maxRecDepth 20000 in
theorem gX9_province_X9_failed : GoodIn wsX9_province (wsV RX9 88 RX9 yX9_failed wsX9_failed) := goodIn_app (goodIn_of _ (by decide +kernel)) ggX9_province_X9_failed
set_option maxRecDepth 20000 in
theorem ggX9_province_X7_firstFault : GoodIn wsX9_province wsX7_firstFault := goodIn_r _ [38, 39, 40, 41, 37, 42, 43, 44, 45, 46, 47, 48, 77, 78, 79, 80] (by decide +kernel) (by decide +kernel)
set_option maxRecDepth 20000 in
theorem gX9_province_X7_firstFault : GoodIn wsX9_province (va_wsS RX9 91 yX7_firstFault wsX7_firstFault) := goodIn_app (goodIn_of _ (by decide +kernel)) ggX9_province_X7_firstFault
set_option maxRecDepth 20000 in
theorem ggX9_province_X7_read : GoodIn wsX9_province wsX7_read := goodIn_r _ [51, 39, 52, 53, 54, 55, 56, 57, 58, 46, 47, 37, 48, 77, 78, 79, 80, 74, 75, 76, 81, 82, 83, 84] (by decide +kernel) (by decide +kernel)
set_option maxRecDepth 20000 in
theorem gX9_province_X7_read : GoodIn wsX9_province (va_wsS RX9 97 yX7_read wsX7_read) := goodIn_app (goodIn_of _ (by decide +kernel)) ggX9_province_X7_read
theorem dX9_province_0 : decode cX9_province 0 = .ok (.aload_n 0, 1) := by decide +kernel
theorem dX9_province_1 : decode cX9_province 1 = .ok (.iconst 0, 1) := by decide +kernel
theorem dX9_province_2 : decode cX9_province 2 = .ok (.putfield 69, 3) := by decide +kernel
theorem dX9_province_5 : decode cX9_province 5 = .ok (.iload_n 1, 1) := by decide +kernel
theorem dX9_province_6 : decode cX9_province 6 = .ok (.invokestatic 73, 3) := by decide +kernel
theorem dX9_province_9 : decode cX9_province 9 = .ok (.ifCond .ne 5, 3) := by decide +kernel
theorem dX9_province_12 : decode cX9_province 12 = .ok (.iconst (-1), 1) := by decide +kernel
theorem dX9_province_13 : decode cX9_province 13 = .ok (.ireturn, 1) := by decide +kernel
theorem dX9_province_14 : decode cX9_province 14 = .ok (.iload_n 2, 1) := by decide +kernel
theorem dX9_province_15 : decode cX9_province 15 = .ok (.invokestatic 77, 3) := by decide +kernel
theorem dX9_province_18 : decode cX9_province 18 = .ok (.ifCond .ne 6, 3) := by decide +kernel
theorem dX9_province_21 : decode cX9_province 21 = .ok (.bipush (-2), 2) := by decide +kernel
theorem dX9_province_23 : decode cX9_province 23 = .ok (.ireturn, 1) := by decide +kernel
theorem dX9_province_24 : decode cX9_province 24 = .ok (.aload_n 0, 1) := by decide +kernel
theorem dX9_province_25 : decode cX9_province 25 = .ok (.getfield 13, 3) := by decide +kernel
theorem dX9_province_28 : decode cX9_province 28 = .ok (.iload_n 1, 1) := by decide +kernel
theorem dX9_province_29 : decode cX9_province 29 = .ok (.aaload, 1) := by decide +kernel
theorem dX9_province_30 : decode cX9_province 30 = .ok (.astore 5, 2) := by decide +kernel
theorem dX9_province_32 : decode cX9_province 32 = .ok (.aload 5, 2) := by decide +kernel
theorem dX9_province_34 : decode cX9_province 34 = .ok (.iload_n 2, 1) := by decide +kernel
theorem dX9_province_35 : decode cX9_province 35 = .ok (.invokevirtual 80, 3) := by decide +kernel
theorem dX9_province_38 : decode cX9_province 38 = .ok (.istore 6, 2) := by decide +kernel
theorem dX9_province_40 : decode cX9_province 40 = .ok (.iload 6, 2) := by decide +kernel
theorem dX9_province_42 : decode cX9_province 42 = .ok (.ifCond .ne 11, 3) := by decide +kernel
theorem dX9_province_45 : decode cX9_province 45 = .ok (.iload 4, 2) := by decide +kernel
theorem dX9_province_47 : decode cX9_province 47 = .ok (.ifCond .ge 6, 3) := by decide +kernel
theorem dX9_province_50 : decode cX9_province 50 = .ok (.iconst 4, 1) := by decide +kernel
theorem dX9_province_51 : decode cX9_province 51 = .ok (.istore 6, 2) := by decide +kernel
theorem dX9_province_53 : decode cX9_province 53 = .ok (.iload 6, 2) := by decide +kernel
theorem dX9_province_55 : decode cX9_province 55 = .ok (.ifCond .ne 17, 3) := by decide +kernel
theorem dX9_province_58 : decode cX9_province 58 = .ok (.aload 5, 2) := by decide +kernel
theorem dX9_province_60 : decode cX9_province 60 = .ok (.iload_n 3, 1) := by decide +kernel
theorem dX9_province_61 : decode cX9_province 61 = .ok (.iload 4, 2) := by decide +kernel
theorem dX9_province_63 : decode cX9_province 63 = .ok (.invokevirtual 84, 3) := by decide +kernel
theorem dX9_province_66 : decode cX9_province 66 = .ok (.ifCond .ne 6, 3) := by decide +kernel
theorem dX9_province_69 : decode cX9_province 69 = .ok (.iconst 3, 1) := by decide +kernel
theorem dX9_province_70 : decode cX9_province 70 = .ok (.istore 6, 2) := by decide +kernel
theorem dX9_province_72 : decode cX9_province 72 = .ok (.iload 6, 2) := by decide +kernel
theorem dX9_province_74 : decode cX9_province 74 = .ok (.ifCond .eq 10, 3) := by decide +kernel
theorem dX9_province_77 : decode cX9_province 77 = .ok (.aload_n 0, 1) := by decide +kernel
theorem dX9_province_78 : decode cX9_province 78 = .ok (.iload 6, 2) := by decide +kernel
theorem dX9_province_80 : decode cX9_province 80 = .ok (.invokevirtual 88, 3) := by decide +kernel
theorem dX9_province_83 : decode cX9_province 83 = .ok (.ireturn, 1) := by decide +kernel
theorem dX9_province_84 : decode cX9_province 84 = .ok (.aload 5, 2) := by decide +kernel
theorem dX9_province_86 : decode cX9_province 86 = .ok (.iload_n 3, 1) := by decide +kernel
theorem dX9_province_87 : decode cX9_province 87 = .ok (.iload 4, 2) := by decide +kernel
theorem dX9_province_89 : decode cX9_province 89 = .ok (.invokestatic 91, 3) := by decide +kernel
theorem dX9_province_92 : decode cX9_province 92 = .ok (.istore 7, 2) := by decide +kernel
theorem dX9_province_94 : decode cX9_province 94 = .ok (.iload 7, 2) := by decide +kernel
theorem dX9_province_96 : decode cX9_province 96 = .ok (.bipush (-9), 2) := by decide +kernel
theorem dX9_province_98 : decode cX9_province 98 = .ok (.if_icmp .eq 9, 3) := by decide +kernel
theorem dX9_province_101 : decode cX9_province 101 = .ok (.bipush (-100), 2) := by decide +kernel
theorem dX9_province_103 : decode cX9_province 103 = .ok (.iload 7, 2) := by decide +kernel
theorem dX9_province_105 : decode cX9_province 105 = .ok (.isub, 1) := by decide +kernel
theorem dX9_province_106 : decode cX9_province 106 = .ok (.ireturn, 1) := by decide +kernel
theorem dX9_province_107 : decode cX9_province 107 = .ok (.aload 5, 2) := by decide +kernel
theorem dX9_province_109 : decode cX9_province 109 = .ok (.iload_n 3, 1) := by decide +kernel
theorem dX9_province_110 : decode cX9_province 110 = .ok (.iload 4, 2) := by decide +kernel
theorem dX9_province_112 : decode cX9_province 112 = .ok (.aload_n 0, 1) := by decide +kernel
theorem dX9_province_113 : decode cX9_province 113 = .ok (.getfield 20, 3) := by decide +kernel
theorem dX9_province_116 : decode cX9_province 116 = .ok (.invokestatic 97, 3) := by decide +kernel
theorem dX9_province_119 : decode cX9_province 119 = .ok (.aload_n 0, 1) := by decide +kernel
theorem dX9_province_120 : decode cX9_province 120 = .ok (.iconst 0, 1) := by decide +kernel
theorem dX9_province_121 : decode cX9_province 121 = .ok (.putfield 62, 3) := by decide +kernel
theorem dX9_province_124 : decode cX9_province 124 = .ok (.aload_n 0, 1) := by decide +kernel
theorem dX9_province_125 : decode cX9_province 125 = .ok (.iconst 0, 1) := by decide +kernel
theorem dX9_province_126 : decode cX9_province 126 = .ok (.putfield 66, 3) := by decide +kernel
theorem dX9_province_129 : decode cX9_province 129 = .ok (.aload_n 0, 1) := by decide +kernel
theorem dX9_province_130 : decode cX9_province 130 = .ok (.getfield 51, 3) := by decide +kernel
theorem dX9_province_133 : decode cX9_province 133 = .ok (.iconst 0, 1) := by decide +kernel
theorem dX9_province_134 : decode cX9_province 134 = .ok (.putfield 101, 3) := by decide +kernel
theorem dX9_province_137 : decode cX9_province 137 = .ok (.aload_n 0, 1) := by decide +kernel
theorem dX9_province_138 : decode cX9_province 138 = .ok (.getfield 20, 3) := by decide +kernel
theorem dX9_province_141 : decode cX9_province 141 = .ok (.getfield 104, 3) := by decide +kernel
theorem dX9_province_144 : decode cX9_province 144 = .ok (.ireturn, 1) := by decide +kernel
set_option maxRecDepth 20000 in
theorem ggX9_ofPerson_X4_hasPerson : GoodIn wsX9_ofPerson wsX4_hasPerson := goodIn_r _ [11, 12, 13, 14, 15, 48, 49, 50] (by decide +kernel) (by decide +kernel)
set_option maxRecDepth 20000 in
theorem gX9_ofPerson_X4_hasPerson : GoodIn wsX9_ofPerson (wsV RX9 105 RX4 yX4_hasPerson wsX4_hasPerson) := goodIn_app (goodIn_of _ (by decide +kernel)) ggX9_ofPerson_X4_hasPerson
set_option maxRecDepth 20000 in
theorem ggX9_ofPerson_X2_saying : GoodIn wsX9_ofPerson wsX2_saying := goodIn_r _ [20, 21, 22, 51, 52, 53, 54] (by decide +kernel) (by decide +kernel)
set_option maxRecDepth 20000 in
theorem gX9_ofPerson_X2_saying : GoodIn wsX9_ofPerson (wsV RX9 126 RX2 yX2_saying wsX2_saying) := goodIn_app (goodIn_of _ (by decide +kernel)) ggX9_ofPerson_X2_saying
set_option maxRecDepth 20000 in
theorem ggX9_ofPerson_X4_placeOf : GoodIn wsX9_ofPerson wsX4_placeOf := goodIn_r _ [26, 12, 27, 28, 29, 10, 30, 31, 32, 33, 34, 35, 36, 48, 49, 50, 51, 52, 53, 54] (by decide +kernel) (by decide +kernel)
set_option maxRecDepth 20000 in
theorem gX9_ofPerson_X4_placeOf : GoodIn wsX9_ofPerson (wsV RX9 130 RX4 yX4_placeOf wsX4_placeOf) := goodIn_app (goodIn_of _ (by decide +kernel)) ggX9_ofPerson_X4_placeOf
theorem dX9_ofPerson_0 : decode cX9_ofPerson 0 = .ok (.aload_n 0, 1) := by decide +kernel
theorem dX9_ofPerson_1 : decode cX9_ofPerson 1 = .ok (.getfield 20, 3) := by decide +kernel
theorem dX9_ofPerson_4 : decode cX9_ofPerson 4 = .ok (.iload_n 1, 1) := by decide +kernel
theorem dX9_ofPerson_5 : decode cX9_ofPerson 5 = .ok (.invokevirtual 105, 3) := by decide +kernel
theorem dX9_ofPerson_8 : decode cX9_ofPerson 8 = .ok (.ifCond .ne 5, 3) := by decide +kernel
theorem dX9_ofPerson_11 : decode cX9_ofPerson 11 = .ok (.iconst (-1), 1) := by decide +kernel
theorem dX9_ofPerson_12 : decode cX9_ofPerson 12 = .ok (.ireturn, 1) := by decide +kernel
theorem dX9_ofPerson_13 : decode cX9_ofPerson 13 = .ok (.aload_n 0, 1) := by decide +kernel
theorem dX9_ofPerson_14 : decode cX9_ofPerson 14 = .ok (.getfield 20, 3) := by decide +kernel
theorem dX9_ofPerson_17 : decode cX9_ofPerson 17 = .ok (.getfield 108, 3) := by decide +kernel
theorem dX9_ofPerson_20 : decode cX9_ofPerson 20 = .ok (.iload_n 1, 1) := by decide +kernel
theorem dX9_ofPerson_21 : decode cX9_ofPerson 21 = .ok (.aaload, 1) := by decide +kernel
theorem dX9_ofPerson_22 : decode cX9_ofPerson 22 = .ok (.astore_n 3, 1) := by decide +kernel
theorem dX9_ofPerson_23 : decode cX9_ofPerson 23 = .ok (.iload_n 2, 1) := by decide +kernel
theorem dX9_ofPerson_24 : decode cX9_ofPerson 24 = .ok (.tableswitch 74 0 5 #[40, 45, 50, 55, 60, 65], 40) := by decide +kernel
theorem dX9_ofPerson_64 : decode cX9_ofPerson 64 = .ok (.aload_n 3, 1) := by decide +kernel
theorem dX9_ofPerson_65 : decode cX9_ofPerson 65 = .ok (.getfield 112, 3) := by decide +kernel
theorem dX9_ofPerson_68 : decode cX9_ofPerson 68 = .ok (.ireturn, 1) := by decide +kernel
theorem dX9_ofPerson_69 : decode cX9_ofPerson 69 = .ok (.aload_n 3, 1) := by decide +kernel
theorem dX9_ofPerson_70 : decode cX9_ofPerson 70 = .ok (.getfield 117, 3) := by decide +kernel
theorem dX9_ofPerson_73 : decode cX9_ofPerson 73 = .ok (.ireturn, 1) := by decide +kernel
theorem dX9_ofPerson_74 : decode cX9_ofPerson 74 = .ok (.aload_n 3, 1) := by decide +kernel
theorem dX9_ofPerson_75 : decode cX9_ofPerson 75 = .ok (.getfield 120, 3) := by decide +kernel
theorem dX9_ofPerson_78 : decode cX9_ofPerson 78 = .ok (.ireturn, 1) := by decide +kernel
theorem dX9_ofPerson_79 : decode cX9_ofPerson 79 = .ok (.aload_n 3, 1) := by decide +kernel
theorem dX9_ofPerson_80 : decode cX9_ofPerson 80 = .ok (.getfield 123, 3) := by decide +kernel
theorem dX9_ofPerson_83 : decode cX9_ofPerson 83 = .ok (.ireturn, 1) := by decide +kernel
theorem dX9_ofPerson_84 : decode cX9_ofPerson 84 = .ok (.aload_n 3, 1) := by decide +kernel
theorem dX9_ofPerson_85 : decode cX9_ofPerson 85 = .ok (.invokevirtual 126, 3) := by decide +kernel
theorem dX9_ofPerson_88 : decode cX9_ofPerson 88 = .ok (.ireturn, 1) := by decide +kernel
theorem dX9_ofPerson_89 : decode cX9_ofPerson 89 = .ok (.aload_n 0, 1) := by decide +kernel
theorem dX9_ofPerson_90 : decode cX9_ofPerson 90 = .ok (.getfield 20, 3) := by decide +kernel
theorem dX9_ofPerson_93 : decode cX9_ofPerson 93 = .ok (.iload_n 1, 1) := by decide +kernel
theorem dX9_ofPerson_94 : decode cX9_ofPerson 94 = .ok (.invokevirtual 130, 3) := by decide +kernel
theorem dX9_ofPerson_97 : decode cX9_ofPerson 97 = .ok (.ireturn, 1) := by decide +kernel
theorem dX9_ofPerson_98 : decode cX9_ofPerson 98 = .ok (.bipush (-2), 2) := by decide +kernel
theorem dX9_ofPerson_100 : decode cX9_ofPerson 100 = .ok (.ireturn, 1) := by decide +kernel
set_option maxRecDepth 20000 in
theorem ggX9_worth_X4_hasMatter : GoodIn wsX9_worth wsX4_hasMatter := goodIn_r _ [7, 8, 9, 10, 11, 23, 24, 25] (by decide +kernel) (by decide +kernel)
set_option maxRecDepth 20000 in
theorem gX9_worth_X4_hasMatter : GoodIn wsX9_worth (wsV RX9 133 RX4 yX4_hasMatter wsX4_hasMatter) := goodIn_app (goodIn_of _ (by decide +kernel)) ggX9_worth_X4_hasMatter
theorem dX9_worth_0 : decode cX9_worth 0 = .ok (.aload_n 0, 1) := by decide +kernel
theorem dX9_worth_1 : decode cX9_worth 1 = .ok (.getfield 20, 3) := by decide +kernel
theorem dX9_worth_4 : decode cX9_worth 4 = .ok (.iload_n 1, 1) := by decide +kernel
theorem dX9_worth_5 : decode cX9_worth 5 = .ok (.invokevirtual 133, 3) := by decide +kernel
theorem dX9_worth_8 : decode cX9_worth 8 = .ok (.ifCond .eq 15, 3) := by decide +kernel
theorem dX9_worth_11 : decode cX9_worth 11 = .ok (.aload_n 0, 1) := by decide +kernel
theorem dX9_worth_12 : decode cX9_worth 12 = .ok (.getfield 20, 3) := by decide +kernel
theorem dX9_worth_15 : decode cX9_worth 15 = .ok (.getfield 136, 3) := by decide +kernel
theorem dX9_worth_18 : decode cX9_worth 18 = .ok (.iload_n 1, 1) := by decide +kernel
theorem dX9_worth_19 : decode cX9_worth 19 = .ok (.iaload, 1) := by decide +kernel
theorem dX9_worth_20 : decode cX9_worth 20 = .ok (.goto 4, 3) := by decide +kernel
theorem dX9_worth_23 : decode cX9_worth 23 = .ok (.iconst (-1), 1) := by decide +kernel
theorem dX9_worth_24 : decode cX9_worth 24 = .ok (.ireturn, 1) := by decide +kernel
set_option maxRecDepth 20000 in
theorem ggX9_weigh_X4_hasMatter : GoodIn wsX9_weigh wsX4_hasMatter := goodIn_r _ [7, 8, 9, 10, 11, 24, 25, 26] (by decide +kernel) (by decide +kernel)
set_option maxRecDepth 20000 in
theorem gX9_weigh_X4_hasMatter : GoodIn wsX9_weigh (wsV RX9 133 RX4 yX4_hasMatter wsX4_hasMatter) := goodIn_app (goodIn_of _ (by decide +kernel)) ggX9_weigh_X4_hasMatter
set_option maxRecDepth 20000 in
theorem ggX9_weigh_X9_isBelow : GoodIn wsX9_weigh wsX9_isBelow := goodIn_r _ [11] (by decide +kernel) (by decide +kernel)
set_option maxRecDepth 20000 in
theorem gX9_weigh_X9_isBelow : GoodIn wsX9_weigh (va_wsS RX9 140 yX9_isBelow wsX9_isBelow) := goodIn_app (goodIn_of _ (by decide +kernel)) ggX9_weigh_X9_isBelow
theorem dX9_weigh_0 : decode cX9_weigh 0 = .ok (.aload_n 0, 1) := by decide +kernel
theorem dX9_weigh_1 : decode cX9_weigh 1 = .ok (.getfield 20, 3) := by decide +kernel
theorem dX9_weigh_4 : decode cX9_weigh 4 = .ok (.iload_n 1, 1) := by decide +kernel
theorem dX9_weigh_5 : decode cX9_weigh 5 = .ok (.invokevirtual 133, 3) := by decide +kernel
theorem dX9_weigh_8 : decode cX9_weigh 8 = .ok (.ifCond .ne 5, 3) := by decide +kernel
theorem dX9_weigh_11 : decode cX9_weigh 11 = .ok (.iconst (-1), 1) := by decide +kernel
theorem dX9_weigh_12 : decode cX9_weigh 12 = .ok (.ireturn, 1) := by decide +kernel
theorem dX9_weigh_13 : decode cX9_weigh 13 = .ok (.iload_n 2, 1) := by decide +kernel
theorem dX9_weigh_14 : decode cX9_weigh 14 = .ok (.bipush 10, 2) := by decide +kernel
theorem dX9_weigh_16 : decode cX9_weigh 16 = .ok (.invokestatic 140, 3) := by decide +kernel
theorem dX9_weigh_19 : decode cX9_weigh 19 = .ok (.ifCond .ne 6, 3) := by decide +kernel
theorem dX9_weigh_22 : decode cX9_weigh 22 = .ok (.bipush (-2), 2) := by decide +kernel
theorem dX9_weigh_24 : decode cX9_weigh 24 = .ok (.ireturn, 1) := by decide +kernel
theorem dX9_weigh_25 : decode cX9_weigh 25 = .ok (.aload_n 0, 1) := by decide +kernel
theorem dX9_weigh_26 : decode cX9_weigh 26 = .ok (.getfield 20, 3) := by decide +kernel
theorem dX9_weigh_29 : decode cX9_weigh 29 = .ok (.getfield 136, 3) := by decide +kernel
theorem dX9_weigh_32 : decode cX9_weigh 32 = .ok (.iload_n 1, 1) := by decide +kernel
theorem dX9_weigh_33 : decode cX9_weigh 33 = .ok (.iaload, 1) := by decide +kernel
theorem dX9_weigh_34 : decode cX9_weigh 34 = .ok (.istore_n 3, 1) := by decide +kernel
theorem dX9_weigh_35 : decode cX9_weigh 35 = .ok (.aload_n 0, 1) := by decide +kernel
theorem dX9_weigh_36 : decode cX9_weigh 36 = .ok (.getfield 20, 3) := by decide +kernel
theorem dX9_weigh_39 : decode cX9_weigh 39 = .ok (.getfield 136, 3) := by decide +kernel
theorem dX9_weigh_42 : decode cX9_weigh 42 = .ok (.iload_n 1, 1) := by decide +kernel
theorem dX9_weigh_43 : decode cX9_weigh 43 = .ok (.iload_n 2, 1) := by decide +kernel
theorem dX9_weigh_44 : decode cX9_weigh 44 = .ok (.iastore, 1) := by decide +kernel
theorem dX9_weigh_45 : decode cX9_weigh 45 = .ok (.iload_n 3, 1) := by decide +kernel
theorem dX9_weigh_46 : decode cX9_weigh 46 = .ok (.ireturn, 1) := by decide +kernel
set_option maxRecDepth 20000 in
theorem ggX9_teach_X4_hasPerson : GoodIn wsX9_teach wsX4_hasPerson := goodIn_r _ [8, 9, 10, 11, 12, 25, 26, 27] (by decide +kernel) (by decide +kernel)
set_option maxRecDepth 20000 in
theorem gX9_teach_X4_hasPerson : GoodIn wsX9_teach (wsV RX9 105 RX4 yX4_hasPerson wsX4_hasPerson) := goodIn_app (goodIn_of _ (by decide +kernel)) ggX9_teach_X4_hasPerson
set_option maxRecDepth 20000 in
theorem ggX9_teach_X9_isBelow : GoodIn wsX9_teach wsX9_isBelow := goodIn_r _ [12] (by decide +kernel) (by decide +kernel)
set_option maxRecDepth 20000 in
theorem gX9_teach_X9_isBelow : GoodIn wsX9_teach (va_wsS RX9 140 yX9_isBelow wsX9_isBelow) := goodIn_app (goodIn_of _ (by decide +kernel)) ggX9_teach_X9_isBelow
theorem dX9_teach_0 : decode cX9_teach 0 = .ok (.aload_n 0, 1) := by decide +kernel
theorem dX9_teach_1 : decode cX9_teach 1 = .ok (.getfield 20, 3) := by decide +kernel
theorem dX9_teach_4 : decode cX9_teach 4 = .ok (.iload_n 1, 1) := by decide +kernel
theorem dX9_teach_5 : decode cX9_teach 5 = .ok (.invokevirtual 105, 3) := by decide +kernel
theorem dX9_teach_8 : decode cX9_teach 8 = .ok (.ifCond .ne 5, 3) := by decide +kernel
theorem dX9_teach_11 : decode cX9_teach 11 = .ok (.iconst (-1), 1) := by decide +kernel
theorem dX9_teach_12 : decode cX9_teach 12 = .ok (.ireturn, 1) := by decide +kernel
theorem dX9_teach_13 : decode cX9_teach 13 = .ok (.iload_n 2, 1) := by decide +kernel
theorem dX9_teach_14 : decode cX9_teach 14 = .ok (.bipush 8, 2) := by decide +kernel
theorem dX9_teach_16 : decode cX9_teach 16 = .ok (.invokestatic 140, 3) := by decide +kernel
theorem dX9_teach_19 : decode cX9_teach 19 = .ok (.ifCond .ne 6, 3) := by decide +kernel
theorem dX9_teach_22 : decode cX9_teach 22 = .ok (.bipush (-2), 2) := by decide +kernel
theorem dX9_teach_24 : decode cX9_teach 24 = .ok (.ireturn, 1) := by decide +kernel
theorem dX9_teach_25 : decode cX9_teach 25 = .ok (.aload_n 0, 1) := by decide +kernel
theorem dX9_teach_26 : decode cX9_teach 26 = .ok (.getfield 20, 3) := by decide +kernel
theorem dX9_teach_29 : decode cX9_teach 29 = .ok (.getfield 108, 3) := by decide +kernel
theorem dX9_teach_32 : decode cX9_teach 32 = .ok (.iload_n 1, 1) := by decide +kernel
theorem dX9_teach_33 : decode cX9_teach 33 = .ok (.aaload, 1) := by decide +kernel
theorem dX9_teach_34 : decode cX9_teach 34 = .ok (.getfield 120, 3) := by decide +kernel
theorem dX9_teach_37 : decode cX9_teach 37 = .ok (.istore_n 3, 1) := by decide +kernel
theorem dX9_teach_38 : decode cX9_teach 38 = .ok (.aload_n 0, 1) := by decide +kernel
theorem dX9_teach_39 : decode cX9_teach 39 = .ok (.getfield 20, 3) := by decide +kernel
theorem dX9_teach_42 : decode cX9_teach 42 = .ok (.getfield 108, 3) := by decide +kernel
theorem dX9_teach_45 : decode cX9_teach 45 = .ok (.iload_n 1, 1) := by decide +kernel
theorem dX9_teach_46 : decode cX9_teach 46 = .ok (.aaload, 1) := by decide +kernel
theorem dX9_teach_47 : decode cX9_teach 47 = .ok (.iload_n 2, 1) := by decide +kernel
theorem dX9_teach_48 : decode cX9_teach 48 = .ok (.putfield 120, 3) := by decide +kernel
theorem dX9_teach_51 : decode cX9_teach 51 = .ok (.iload_n 3, 1) := by decide +kernel
theorem dX9_teach_52 : decode cX9_teach 52 = .ok (.ireturn, 1) := by decide +kernel
set_option maxRecDepth 20000 in
theorem ggX9_sharpen_X4_hasPerson : GoodIn wsX9_sharpen wsX4_hasPerson := goodIn_r _ [8, 9, 10, 11, 12, 25, 26, 27] (by decide +kernel) (by decide +kernel)
set_option maxRecDepth 20000 in
theorem gX9_sharpen_X4_hasPerson : GoodIn wsX9_sharpen (wsV RX9 105 RX4 yX4_hasPerson wsX4_hasPerson) := goodIn_app (goodIn_of _ (by decide +kernel)) ggX9_sharpen_X4_hasPerson
set_option maxRecDepth 20000 in
theorem ggX9_sharpen_X9_isBelow : GoodIn wsX9_sharpen wsX9_isBelow := goodIn_r _ [12] (by decide +kernel) (by decide +kernel)
set_option maxRecDepth 20000 in
theorem gX9_sharpen_X9_isBelow : GoodIn wsX9_sharpen (va_wsS RX9 140 yX9_isBelow wsX9_isBelow) := goodIn_app (goodIn_of _ (by decide +kernel)) ggX9_sharpen_X9_isBelow
theorem dX9_sharpen_0 : decode cX9_sharpen 0 = .ok (.aload_n 0, 1) := by decide +kernel
theorem dX9_sharpen_1 : decode cX9_sharpen 1 = .ok (.getfield 20, 3) := by decide +kernel
theorem dX9_sharpen_4 : decode cX9_sharpen 4 = .ok (.iload_n 1, 1) := by decide +kernel
theorem dX9_sharpen_5 : decode cX9_sharpen 5 = .ok (.invokevirtual 105, 3) := by decide +kernel
theorem dX9_sharpen_8 : decode cX9_sharpen 8 = .ok (.ifCond .ne 5, 3) := by decide +kernel
theorem dX9_sharpen_11 : decode cX9_sharpen 11 = .ok (.iconst (-1), 1) := by decide +kernel
theorem dX9_sharpen_12 : decode cX9_sharpen 12 = .ok (.ireturn, 1) := by decide +kernel
theorem dX9_sharpen_13 : decode cX9_sharpen 13 = .ok (.iload_n 2, 1) := by decide +kernel
theorem dX9_sharpen_14 : decode cX9_sharpen 14 = .ok (.bipush 10, 2) := by decide +kernel
theorem dX9_sharpen_16 : decode cX9_sharpen 16 = .ok (.invokestatic 140, 3) := by decide +kernel
theorem dX9_sharpen_19 : decode cX9_sharpen 19 = .ok (.ifCond .ne 6, 3) := by decide +kernel
theorem dX9_sharpen_22 : decode cX9_sharpen 22 = .ok (.bipush (-2), 2) := by decide +kernel
theorem dX9_sharpen_24 : decode cX9_sharpen 24 = .ok (.ireturn, 1) := by decide +kernel
theorem dX9_sharpen_25 : decode cX9_sharpen 25 = .ok (.aload_n 0, 1) := by decide +kernel
theorem dX9_sharpen_26 : decode cX9_sharpen 26 = .ok (.getfield 20, 3) := by decide +kernel
theorem dX9_sharpen_29 : decode cX9_sharpen 29 = .ok (.getfield 108, 3) := by decide +kernel
theorem dX9_sharpen_32 : decode cX9_sharpen 32 = .ok (.iload_n 1, 1) := by decide +kernel
theorem dX9_sharpen_33 : decode cX9_sharpen 33 = .ok (.aaload, 1) := by decide +kernel
theorem dX9_sharpen_34 : decode cX9_sharpen 34 = .ok (.getfield 123, 3) := by decide +kernel
theorem dX9_sharpen_37 : decode cX9_sharpen 37 = .ok (.istore_n 3, 1) := by decide +kernel
theorem dX9_sharpen_38 : decode cX9_sharpen 38 = .ok (.aload_n 0, 1) := by decide +kernel
theorem dX9_sharpen_39 : decode cX9_sharpen 39 = .ok (.getfield 20, 3) := by decide +kernel
theorem dX9_sharpen_42 : decode cX9_sharpen 42 = .ok (.getfield 108, 3) := by decide +kernel
theorem dX9_sharpen_45 : decode cX9_sharpen 45 = .ok (.iload_n 1, 1) := by decide +kernel
theorem dX9_sharpen_46 : decode cX9_sharpen 46 = .ok (.aaload, 1) := by decide +kernel
theorem dX9_sharpen_47 : decode cX9_sharpen 47 = .ok (.iload_n 2, 1) := by decide +kernel
theorem dX9_sharpen_48 : decode cX9_sharpen 48 = .ok (.putfield 123, 3) := by decide +kernel
theorem dX9_sharpen_51 : decode cX9_sharpen 51 = .ok (.iload_n 3, 1) := by decide +kernel
theorem dX9_sharpen_52 : decode cX9_sharpen 52 = .ok (.ireturn, 1) := by decide +kernel
set_option maxRecDepth 20000 in
theorem ggX9_brings_X4_hasPerson : GoodIn wsX9_brings wsX4_hasPerson := goodIn_r _ [6, 7, 8, 9, 10, 44, 45, 46] (by decide +kernel) (by decide +kernel)
set_option maxRecDepth 20000 in
theorem gX9_brings_X4_hasPerson : GoodIn wsX9_brings (wsV RX9 105 RX4 yX4_hasPerson wsX4_hasPerson) := goodIn_app (goodIn_of _ (by decide +kernel)) ggX9_brings_X4_hasPerson
set_option maxRecDepth 20000 in
theorem ggX9_brings_X4_hasMatter : GoodIn wsX9_brings wsX4_hasMatter := goodIn_r _ [14, 7, 8, 9, 10, 44, 45, 46] (by decide +kernel) (by decide +kernel)
set_option maxRecDepth 20000 in
theorem gX9_brings_X4_hasMatter : GoodIn wsX9_brings (wsV RX9 133 RX4 yX4_hasMatter wsX4_hasMatter) := goodIn_app (goodIn_of _ (by decide +kernel)) ggX9_brings_X4_hasMatter
set_option maxRecDepth 20000 in
theorem ggX9_brings_X4_bringing : GoodIn wsX9_brings wsX4_bringing := goodIn_r _ [18, 19, 20, 21, 22, 23, 24, 25, 26, 27, 28, 29, 30, 31, 32, 44, 45, 46, 47, 48, 49, 50] (by decide +kernel) (by decide +kernel)
set_option maxRecDepth 20000 in
theorem gX9_brings_X4_bringing : GoodIn wsX9_brings (wsV RX9 143 RX4 yX4_bringing wsX4_bringing) := goodIn_app (goodIn_of _ (by decide +kernel)) ggX9_brings_X4_bringing
theorem dX9_brings_0 : decode cX9_brings 0 = .ok (.aload_n 0, 1) := by decide +kernel
theorem dX9_brings_1 : decode cX9_brings 1 = .ok (.getfield 20, 3) := by decide +kernel
theorem dX9_brings_4 : decode cX9_brings 4 = .ok (.iload_n 1, 1) := by decide +kernel
theorem dX9_brings_5 : decode cX9_brings 5 = .ok (.invokevirtual 105, 3) := by decide +kernel
theorem dX9_brings_8 : decode cX9_brings 8 = .ok (.ifCond .eq 14, 3) := by decide +kernel
theorem dX9_brings_11 : decode cX9_brings 11 = .ok (.aload_n 0, 1) := by decide +kernel
theorem dX9_brings_12 : decode cX9_brings 12 = .ok (.getfield 20, 3) := by decide +kernel
theorem dX9_brings_15 : decode cX9_brings 15 = .ok (.iload_n 2, 1) := by decide +kernel
theorem dX9_brings_16 : decode cX9_brings 16 = .ok (.invokevirtual 133, 3) := by decide +kernel
theorem dX9_brings_19 : decode cX9_brings 19 = .ok (.ifCond .ne 5, 3) := by decide +kernel
theorem dX9_brings_22 : decode cX9_brings 22 = .ok (.iconst (-1), 1) := by decide +kernel
theorem dX9_brings_23 : decode cX9_brings 23 = .ok (.ireturn, 1) := by decide +kernel
theorem dX9_brings_24 : decode cX9_brings 24 = .ok (.aload_n 0, 1) := by decide +kernel
theorem dX9_brings_25 : decode cX9_brings 25 = .ok (.getfield 20, 3) := by decide +kernel
theorem dX9_brings_28 : decode cX9_brings 28 = .ok (.iload_n 1, 1) := by decide +kernel
theorem dX9_brings_29 : decode cX9_brings 29 = .ok (.iload_n 2, 1) := by decide +kernel
theorem dX9_brings_30 : decode cX9_brings 30 = .ok (.invokevirtual 143, 3) := by decide +kernel
theorem dX9_brings_33 : decode cX9_brings 33 = .ok (.ireturn, 1) := by decide +kernel
set_option maxRecDepth 20000 in
theorem ggX9_question_X4_hasMatter : GoodIn wsX9_question wsX4_hasMatter := goodIn_r _ [10, 11, 12, 13, 14, 49, 50, 51] (by decide +kernel) (by decide +kernel)
set_option maxRecDepth 20000 in
theorem gX9_question_X4_hasMatter : GoodIn wsX9_question (wsV RX9 133 RX4 yX4_hasMatter wsX4_hasMatter) := goodIn_app (goodIn_of _ (by decide +kernel)) ggX9_question_X4_hasMatter
set_option maxRecDepth 20000 in
theorem ggX9_question_X4_first : GoodIn wsX9_question wsX4_first := goodIn_r _ [18, 11, 19, 20, 49, 50, 51, 52, 53, 54, 55] (by decide +kernel) (by decide +kernel)
set_option maxRecDepth 20000 in
theorem gX9_question_X4_first : GoodIn wsX9_question (wsV RX9 147 RX4 yX4_first wsX4_first) := goodIn_app (goodIn_of _ (by decide +kernel)) ggX9_question_X4_first
set_option maxRecDepth 20000 in
theorem ggX9_question_X4_bringing : GoodIn wsX9_question wsX4_bringing := goodIn_r _ [24, 19, 25, 26, 27, 28, 29, 30, 31, 32, 33, 34, 35, 36, 37, 49, 50, 51, 52, 53, 54, 55] (by decide +kernel) (by decide +kernel)
set_option maxRecDepth 20000 in
theorem gX9_question_X4_bringing : GoodIn wsX9_question (wsV RX9 143 RX4 yX4_bringing wsX4_bringing) := goodIn_app (goodIn_of _ (by decide +kernel)) ggX9_question_X4_bringing
theorem dX9_question_0 : decode cX9_question 0 = .ok (.aload_n 0, 1) := by decide +kernel
theorem dX9_question_1 : decode cX9_question 1 = .ok (.getfield 20, 3) := by decide +kernel
theorem dX9_question_4 : decode cX9_question 4 = .ok (.iload_n 1, 1) := by decide +kernel
theorem dX9_question_5 : decode cX9_question 5 = .ok (.invokevirtual 133, 3) := by decide +kernel
theorem dX9_question_8 : decode cX9_question 8 = .ok (.ifCond .ne 5, 3) := by decide +kernel
theorem dX9_question_11 : decode cX9_question 11 = .ok (.iconst (-1), 1) := by decide +kernel
theorem dX9_question_12 : decode cX9_question 12 = .ok (.ireturn, 1) := by decide +kernel
theorem dX9_question_13 : decode cX9_question 13 = .ok (.aload_n 0, 1) := by decide +kernel
theorem dX9_question_14 : decode cX9_question 14 = .ok (.getfield 20, 3) := by decide +kernel
theorem dX9_question_17 : decode cX9_question 17 = .ok (.invokevirtual 147, 3) := by decide +kernel
theorem dX9_question_20 : decode cX9_question 20 = .ok (.istore_n 2, 1) := by decide +kernel
theorem dX9_question_21 : decode cX9_question 21 = .ok (.aload_n 0, 1) := by decide +kernel
theorem dX9_question_22 : decode cX9_question 22 = .ok (.getfield 20, 3) := by decide +kernel
theorem dX9_question_25 : decode cX9_question 25 = .ok (.getfield 108, 3) := by decide +kernel
theorem dX9_question_28 : decode cX9_question 28 = .ok (.iload_n 2, 1) := by decide +kernel
theorem dX9_question_29 : decode cX9_question 29 = .ok (.aaload, 1) := by decide +kernel
theorem dX9_question_30 : decode cX9_question 30 = .ok (.dup, 1) := by decide +kernel
theorem dX9_question_31 : decode cX9_question 31 = .ok (.getfield 117, 3) := by decide +kernel
theorem dX9_question_34 : decode cX9_question 34 = .ok (.iconst 1, 1) := by decide +kernel
theorem dX9_question_35 : decode cX9_question 35 = .ok (.iadd, 1) := by decide +kernel
theorem dX9_question_36 : decode cX9_question 36 = .ok (.putfield 117, 3) := by decide +kernel
theorem dX9_question_39 : decode cX9_question 39 = .ok (.aload_n 0, 1) := by decide +kernel
theorem dX9_question_40 : decode cX9_question 40 = .ok (.dup, 1) := by decide +kernel
theorem dX9_question_41 : decode cX9_question 41 = .ok (.getfield 62, 3) := by decide +kernel
theorem dX9_question_44 : decode cX9_question 44 = .ok (.iconst 1, 1) := by decide +kernel
theorem dX9_question_45 : decode cX9_question 45 = .ok (.iadd, 1) := by decide +kernel
theorem dX9_question_46 : decode cX9_question 46 = .ok (.putfield 62, 3) := by decide +kernel
theorem dX9_question_49 : decode cX9_question 49 = .ok (.aload_n 0, 1) := by decide +kernel
theorem dX9_question_50 : decode cX9_question 50 = .ok (.dup, 1) := by decide +kernel
theorem dX9_question_51 : decode cX9_question 51 = .ok (.getfield 66, 3) := by decide +kernel
theorem dX9_question_54 : decode cX9_question 54 = .ok (.aload_n 0, 1) := by decide +kernel
theorem dX9_question_55 : decode cX9_question 55 = .ok (.getfield 20, 3) := by decide +kernel
theorem dX9_question_58 : decode cX9_question 58 = .ok (.iload_n 2, 1) := by decide +kernel
theorem dX9_question_59 : decode cX9_question 59 = .ok (.iload_n 1, 1) := by decide +kernel
theorem dX9_question_60 : decode cX9_question 60 = .ok (.invokevirtual 143, 3) := by decide +kernel
theorem dX9_question_63 : decode cX9_question 63 = .ok (.iadd, 1) := by decide +kernel
theorem dX9_question_64 : decode cX9_question 64 = .ok (.putfield 66, 3) := by decide +kernel
theorem dX9_question_67 : decode cX9_question 67 = .ok (.iload_n 2, 1) := by decide +kernel
theorem dX9_question_68 : decode cX9_question 68 = .ok (.ireturn, 1) := by decide +kernel
set_option maxRecDepth 20000 in
theorem ggX9_feint_X4_hasPerson : GoodIn wsX9_feint wsX4_hasPerson := goodIn_r _ [8, 9, 10, 11, 12, 30, 31, 32] (by decide +kernel) (by decide +kernel)
set_option maxRecDepth 20000 in
theorem gX9_feint_X4_hasPerson : GoodIn wsX9_feint (wsV RX9 105 RX4 yX4_hasPerson wsX4_hasPerson) := goodIn_app (goodIn_of _ (by decide +kernel)) ggX9_feint_X4_hasPerson
set_option maxRecDepth 20000 in
theorem ggX9_feint_X4_first : GoodIn wsX9_feint wsX4_first := goodIn_r _ [16, 9, 17, 18, 30, 31, 32, 33, 34, 35, 36] (by decide +kernel) (by decide +kernel)
set_option maxRecDepth 20000 in
theorem gX9_feint_X4_first : GoodIn wsX9_feint (wsV RX9 147 RX4 yX4_first wsX4_first) := goodIn_app (goodIn_of _ (by decide +kernel)) ggX9_feint_X4_first
theorem dX9_feint_0 : decode cX9_feint 0 = .ok (.aload_n 0, 1) := by decide +kernel
theorem dX9_feint_1 : decode cX9_feint 1 = .ok (.getfield 20, 3) := by decide +kernel
theorem dX9_feint_4 : decode cX9_feint 4 = .ok (.iload_n 1, 1) := by decide +kernel
theorem dX9_feint_5 : decode cX9_feint 5 = .ok (.invokevirtual 105, 3) := by decide +kernel
theorem dX9_feint_8 : decode cX9_feint 8 = .ok (.ifCond .ne 5, 3) := by decide +kernel
theorem dX9_feint_11 : decode cX9_feint 11 = .ok (.iconst (-1), 1) := by decide +kernel
theorem dX9_feint_12 : decode cX9_feint 12 = .ok (.ireturn, 1) := by decide +kernel
theorem dX9_feint_13 : decode cX9_feint 13 = .ok (.aload_n 0, 1) := by decide +kernel
theorem dX9_feint_14 : decode cX9_feint 14 = .ok (.getfield 20, 3) := by decide +kernel
theorem dX9_feint_17 : decode cX9_feint 17 = .ok (.invokevirtual 147, 3) := by decide +kernel
theorem dX9_feint_20 : decode cX9_feint 20 = .ok (.iload_n 1, 1) := by decide +kernel
theorem dX9_feint_21 : decode cX9_feint 21 = .ok (.if_icmp .eq 6, 3) := by decide +kernel
theorem dX9_feint_24 : decode cX9_feint 24 = .ok (.bipush (-3), 2) := by decide +kernel
theorem dX9_feint_26 : decode cX9_feint 26 = .ok (.ireturn, 1) := by decide +kernel
theorem dX9_feint_27 : decode cX9_feint 27 = .ok (.aload_n 0, 1) := by decide +kernel
theorem dX9_feint_28 : decode cX9_feint 28 = .ok (.getfield 20, 3) := by decide +kernel
theorem dX9_feint_31 : decode cX9_feint 31 = .ok (.getfield 108, 3) := by decide +kernel
theorem dX9_feint_34 : decode cX9_feint 34 = .ok (.iload_n 1, 1) := by decide +kernel
theorem dX9_feint_35 : decode cX9_feint 35 = .ok (.aaload, 1) := by decide +kernel
theorem dX9_feint_36 : decode cX9_feint 36 = .ok (.dup, 1) := by decide +kernel
theorem dX9_feint_37 : decode cX9_feint 37 = .ok (.getfield 117, 3) := by decide +kernel
theorem dX9_feint_40 : decode cX9_feint 40 = .ok (.iconst 1, 1) := by decide +kernel
theorem dX9_feint_41 : decode cX9_feint 41 = .ok (.iadd, 1) := by decide +kernel
theorem dX9_feint_42 : decode cX9_feint 42 = .ok (.putfield 117, 3) := by decide +kernel
theorem dX9_feint_45 : decode cX9_feint 45 = .ok (.aload_n 0, 1) := by decide +kernel
theorem dX9_feint_46 : decode cX9_feint 46 = .ok (.getfield 20, 3) := by decide +kernel
theorem dX9_feint_49 : decode cX9_feint 49 = .ok (.getfield 108, 3) := by decide +kernel
theorem dX9_feint_52 : decode cX9_feint 52 = .ok (.iload_n 1, 1) := by decide +kernel
theorem dX9_feint_53 : decode cX9_feint 53 = .ok (.aaload, 1) := by decide +kernel
theorem dX9_feint_54 : decode cX9_feint 54 = .ok (.getfield 117, 3) := by decide +kernel
theorem dX9_feint_57 : decode cX9_feint 57 = .ok (.ireturn, 1) := by decide +kernel
set_option maxRecDepth 20000 in
theorem ggX9_year_X9_isSheet : GoodIn wsX9_year wsX9_isSheet := goodIn_r _ [10, 11, 12, 9, 13] (by decide +kernel) (by decide +kernel)
set_option maxRecDepth 20000 in
theorem gX9_year_X9_isSheet : GoodIn wsX9_year (va_wsS RX9 73 yX9_isSheet wsX9_isSheet) := goodIn_app (goodIn_of _ (by decide +kernel)) ggX9_year_X9_isSheet
set_option maxRecDepth 20000 in
theorem ggX9_year_X9_isLane : GoodIn wsX9_year wsX9_isLane := goodIn_r _ [16] (by decide +kernel) (by decide +kernel)
set_option maxRecDepth 20000 in
theorem gX9_year_X9_isLane : GoodIn wsX9_year (va_wsS RX9 77 yX9_isLane wsX9_isLane) := goodIn_app (goodIn_of _ (by decide +kernel)) ggX9_year_X9_isLane
set_option maxRecDepth 20000 in
theorem ggX9_year_X8_tells : GoodIn wsX9_year wsX8_tells := goodIn_r _ [20, 12, 9, 13, 21, 22, 19, 23] (by decide +kernel) (by decide +kernel)
set_option maxRecDepth 20000 in
theorem gX9_year_X8_tells : GoodIn wsX9_year (va_wsS RX9 150 yX8_tells wsX8_tells) := goodIn_app (goodIn_of _ (by decide +kernel)) ggX9_year_X8_tells
set_option maxRecDepth 20000 in
theorem ggX9_year_X9_rowFault : GoodIn wsX9_year wsX9_rowFault := goodIn_r _ [26, 27, 28, 29, 30, 31, 32, 33, 34, 35, 36, 37, 38, 134, 135, 136, 137] (by decide +kernel) (by decide +kernel)
set_option maxRecDepth 20000 in
theorem gX9_year_X9_rowFault : GoodIn wsX9_year (va_wsS RX9 153 yX9_rowFault wsX9_rowFault) := goodIn_app (goodIn_of _ (by decide +kernel)) ggX9_year_X9_rowFault
set_option maxRecDepth 20000 in
theorem ggX9_year_X9_failed : GoodIn wsX9_year wsX9_failed := goodIn_r _ [42, 1, 120, 121, 122, 123, 124, 125, 126, 127, 128, 129, 130] (by decide +kernel) (by decide +kernel)
set_option maxRecDepth 20000 in
theorem gX9_year_X9_failed : GoodIn wsX9_year (wsV RX9 88 RX9 yX9_failed wsX9_failed) := goodIn_app (goodIn_of _ (by decide +kernel)) ggX9_year_X9_failed
set_option maxRecDepth 20000 in
theorem ggX9_year_X8_refusal : GoodIn wsX9_year wsX8_refusal := goodIn_r _ [45, 46, 47, 48, 19, 49, 50, 51, 52, 53, 54, 55, 12, 9, 13, 56, 57, 58, 59, 21, 22, 23, 134, 135, 136, 137, 131, 132, 133] (by decide +kernel) (by decide +kernel)
set_option maxRecDepth 20000 in
theorem gX9_year_X8_refusal : GoodIn wsX9_year (va_wsS RX9 157 yX8_refusal wsX8_refusal) := goodIn_app (goodIn_of _ (by decide +kernel)) ggX9_year_X8_refusal
set_option maxRecDepth 20000 in
theorem ggX9_year_X4_becomeLike : GoodIn wsX9_year wsX4_becomeLike := goodIn_r _ [63, 55, 64, 65, 66, 67, 68, 69, 70, 71, 72, 73, 74, 75, 76, 77, 78, 131, 132, 133, 138, 139, 140, 141] (by decide +kernel) (by decide +kernel)
set_option maxRecDepth 20000 in
theorem gX9_year_X4_becomeLike : GoodIn wsX9_year (wsV RX9 161 RX4 yX4_becomeLike wsX4_becomeLike) := goodIn_app (goodIn_of _ (by decide +kernel)) ggX9_year_X4_becomeLike
set_option maxRecDepth 20000 in
theorem ggX9_year_X8_go : GoodIn wsX9_year wsX8_go := goodIn_r _ [82, 83, 84, 85, 86, 46, 87, 88, 89, 19, 90, 91, 92, 93, 94, 95, 96, 97, 98, 99, 100, 53, 101, 55, 69, 102, 103, 104, 105, 106, 64, 107, 108, 109, 73, 110, 75, 78, 111, 112, 113, 114, 77, 115, 56, 57, 58, 59, 12, 9, 13, 142, 143, 144, 145, 134, 135, 136, 137, 131, 132, 133, 138, 139, 140, 141] (by decide +kernel) (by decide +kernel)
set_option maxRecDepth 20000 in
theorem gX9_year_X8_go : GoodIn wsX9_year (wsV RX9 165 RX8 yX8_go wsX8_go) := goodIn_app (goodIn_of _ (by decide +kernel)) ggX9_year_X8_go
set_option maxRecDepth 20000 in
theorem ggX9_year_X8_answer : GoodIn wsX9_year wsX8_answer := goodIn_r _ [119, 86, 83, 84, 85, 91, 92, 98, 99, 100, 53, 101, 55, 69, 102, 56, 57, 58, 59, 12, 9, 13, 142, 143, 144, 145, 131, 132, 133, 138, 139, 140, 141] (by decide +kernel) (by decide +kernel)
set_option maxRecDepth 20000 in
theorem gX9_year_X8_answer : GoodIn wsX9_year (wsV RX9 168 RX8 yX8_answer wsX8_answer) := goodIn_app (goodIn_of _ (by decide +kernel)) ggX9_year_X8_answer
theorem dX9_year_0 : decode cX9_year 0 = .ok (.aload_n 0, 1) := by decide +kernel
theorem dX9_year_1 : decode cX9_year 1 = .ok (.iconst 0, 1) := by decide +kernel
theorem dX9_year_2 : decode cX9_year 2 = .ok (.putfield 69, 3) := by decide +kernel
theorem dX9_year_5 : decode cX9_year 5 = .ok (.iload_n 1, 1) := by decide +kernel
theorem dX9_year_6 : decode cX9_year 6 = .ok (.invokestatic 73, 3) := by decide +kernel
theorem dX9_year_9 : decode cX9_year 9 = .ok (.ifCond .ne 5, 3) := by decide +kernel
theorem dX9_year_12 : decode cX9_year 12 = .ok (.iconst (-1), 1) := by decide +kernel
theorem dX9_year_13 : decode cX9_year 13 = .ok (.ireturn, 1) := by decide +kernel
theorem dX9_year_14 : decode cX9_year 14 = .ok (.iload_n 2, 1) := by decide +kernel
theorem dX9_year_15 : decode cX9_year 15 = .ok (.invokestatic 77, 3) := by decide +kernel
theorem dX9_year_18 : decode cX9_year 18 = .ok (.ifCond .eq 23, 3) := by decide +kernel
theorem dX9_year_21 : decode cX9_year 21 = .ok (.iload 4, 2) := by decide +kernel
theorem dX9_year_23 : decode cX9_year 23 = .ok (.ifCond .lt 18, 3) := by decide +kernel
theorem dX9_year_26 : decode cX9_year 26 = .ok (.iload 4, 2) := by decide +kernel
theorem dX9_year_28 : decode cX9_year 28 = .ok (.bipush 20, 2) := by decide +kernel
theorem dX9_year_30 : decode cX9_year 30 = .ok (.if_icmp .gt 11, 3) := by decide +kernel
theorem dX9_year_33 : decode cX9_year 33 = .ok (.iload 5, 2) := by decide +kernel
theorem dX9_year_35 : decode cX9_year 35 = .ok (.invokestatic 150, 3) := by decide +kernel
theorem dX9_year_38 : decode cX9_year 38 = .ok (.ifCond .ne 6, 3) := by decide +kernel
theorem dX9_year_41 : decode cX9_year 41 = .ok (.bipush (-2), 2) := by decide +kernel
theorem dX9_year_43 : decode cX9_year 43 = .ok (.ireturn, 1) := by decide +kernel
theorem dX9_year_44 : decode cX9_year 44 = .ok (.aload_n 0, 1) := by decide +kernel
theorem dX9_year_45 : decode cX9_year 45 = .ok (.getfield 13, 3) := by decide +kernel
theorem dX9_year_48 : decode cX9_year 48 = .ok (.iload_n 1, 1) := by decide +kernel
theorem dX9_year_49 : decode cX9_year 49 = .ok (.aaload, 1) := by decide +kernel
theorem dX9_year_50 : decode cX9_year 50 = .ok (.iload_n 2, 1) := by decide +kernel
theorem dX9_year_51 : decode cX9_year 51 = .ok (.iload_n 3, 1) := by decide +kernel
theorem dX9_year_52 : decode cX9_year 52 = .ok (.iconst 2, 1) := by decide +kernel
theorem dX9_year_53 : decode cX9_year 53 = .ok (.iload 4, 2) := by decide +kernel
theorem dX9_year_55 : decode cX9_year 55 = .ok (.imul, 1) := by decide +kernel
theorem dX9_year_56 : decode cX9_year 56 = .ok (.invokestatic 153, 3) := by decide +kernel
theorem dX9_year_59 : decode cX9_year 59 = .ok (.istore 6, 2) := by decide +kernel
theorem dX9_year_61 : decode cX9_year 61 = .ok (.iload 6, 2) := by decide +kernel
theorem dX9_year_63 : decode cX9_year 63 = .ok (.ifCond .eq 10, 3) := by decide +kernel
theorem dX9_year_66 : decode cX9_year 66 = .ok (.aload_n 0, 1) := by decide +kernel
theorem dX9_year_67 : decode cX9_year 67 = .ok (.iload 6, 2) := by decide +kernel
theorem dX9_year_69 : decode cX9_year 69 = .ok (.invokevirtual 88, 3) := by decide +kernel
theorem dX9_year_72 : decode cX9_year 72 = .ok (.ireturn, 1) := by decide +kernel
theorem dX9_year_73 : decode cX9_year 73 = .ok (.aload_n 0, 1) := by decide +kernel
theorem dX9_year_74 : decode cX9_year 74 = .ok (.getfield 20, 3) := by decide +kernel
theorem dX9_year_77 : decode cX9_year 77 = .ok (.getfield 104, 3) := by decide +kernel
theorem dX9_year_80 : decode cX9_year 80 = .ok (.ifCond .ne 6, 3) := by decide +kernel
theorem dX9_year_83 : decode cX9_year 83 = .ok (.bipush (-3), 2) := by decide +kernel
theorem dX9_year_85 : decode cX9_year 85 = .ok (.ireturn, 1) := by decide +kernel
theorem dX9_year_86 : decode cX9_year 86 = .ok (.aload_n 0, 1) := by decide +kernel
theorem dX9_year_87 : decode cX9_year 87 = .ok (.getfield 13, 3) := by decide +kernel
theorem dX9_year_90 : decode cX9_year 90 = .ok (.iload_n 1, 1) := by decide +kernel
theorem dX9_year_91 : decode cX9_year 91 = .ok (.aaload, 1) := by decide +kernel
theorem dX9_year_92 : decode cX9_year 92 = .ok (.iload_n 3, 1) := by decide +kernel
theorem dX9_year_93 : decode cX9_year 93 = .ok (.iload 4, 2) := by decide +kernel
theorem dX9_year_95 : decode cX9_year 95 = .ok (.aload_n 0, 1) := by decide +kernel
theorem dX9_year_96 : decode cX9_year 96 = .ok (.getfield 20, 3) := by decide +kernel
theorem dX9_year_99 : decode cX9_year 99 = .ok (.invokestatic 157, 3) := by decide +kernel
theorem dX9_year_102 : decode cX9_year 102 = .ok (.istore 7, 2) := by decide +kernel
theorem dX9_year_104 : decode cX9_year 104 = .ok (.iload 7, 2) := by decide +kernel
theorem dX9_year_106 : decode cX9_year 106 = .ok (.ifCond .eq 6, 3) := by decide +kernel
theorem dX9_year_109 : decode cX9_year 109 = .ok (.iload 7, 2) := by decide +kernel
theorem dX9_year_111 : decode cX9_year 111 = .ok (.ireturn, 1) := by decide +kernel
theorem dX9_year_112 : decode cX9_year 112 = .ok (.aload_n 0, 1) := by decide +kernel
theorem dX9_year_113 : decode cX9_year 113 = .ok (.getfield 24, 3) := by decide +kernel
theorem dX9_year_116 : decode cX9_year 116 = .ok (.aload_n 0, 1) := by decide +kernel
theorem dX9_year_117 : decode cX9_year 117 = .ok (.getfield 20, 3) := by decide +kernel
theorem dX9_year_120 : decode cX9_year 120 = .ok (.invokevirtual 161, 3) := by decide +kernel
theorem dX9_year_123 : decode cX9_year 123 = .ok (.aload_n 0, 1) := by decide +kernel
theorem dX9_year_124 : decode cX9_year 124 = .ok (.getfield 30, 3) := by decide +kernel
theorem dX9_year_127 : decode cX9_year 127 = .ok (.aload_n 0, 1) := by decide +kernel
theorem dX9_year_128 : decode cX9_year 128 = .ok (.getfield 13, 3) := by decide +kernel
theorem dX9_year_131 : decode cX9_year 131 = .ok (.iload_n 1, 1) := by decide +kernel
theorem dX9_year_132 : decode cX9_year 132 = .ok (.aaload, 1) := by decide +kernel
theorem dX9_year_133 : decode cX9_year 133 = .ok (.iload_n 3, 1) := by decide +kernel
theorem dX9_year_134 : decode cX9_year 134 = .ok (.iload 4, 2) := by decide +kernel
theorem dX9_year_136 : decode cX9_year 136 = .ok (.aload_n 0, 1) := by decide +kernel
theorem dX9_year_137 : decode cX9_year 137 = .ok (.getfield 24, 3) := by decide +kernel
theorem dX9_year_140 : decode cX9_year 140 = .ok (.invokevirtual 165, 3) := by decide +kernel
theorem dX9_year_143 : decode cX9_year 143 = .ok (.aload_n 0, 1) := by decide +kernel
theorem dX9_year_144 : decode cX9_year 144 = .ok (.getfield 30, 3) := by decide +kernel
theorem dX9_year_147 : decode cX9_year 147 = .ok (.iload 5, 2) := by decide +kernel
theorem dX9_year_149 : decode cX9_year 149 = .ok (.aload_n 0, 1) := by decide +kernel
theorem dX9_year_150 : decode cX9_year 150 = .ok (.getfield 24, 3) := by decide +kernel
theorem dX9_year_153 : decode cX9_year 153 = .ok (.invokevirtual 168, 3) := by decide +kernel
theorem dX9_year_156 : decode cX9_year 156 = .ok (.ireturn, 1) := by decide +kernel
set_option maxRecDepth 20000 in
theorem ggX9_register_X9_isBelow : GoodIn wsX9_register wsX9_isBelow := goodIn_r _ [6] (by decide +kernel) (by decide +kernel)
set_option maxRecDepth 20000 in
theorem gX9_register_X9_isBelow : GoodIn wsX9_register (va_wsS RX9 140 yX9_isBelow wsX9_isBelow) := goodIn_app (goodIn_of _ (by decide +kernel)) ggX9_register_X9_isBelow
set_option maxRecDepth 20000 in
theorem ggX9_register_X4_atPlace : GoodIn wsX9_register wsX4_atPlace := goodIn_r _ [11, 12, 13, 14, 15, 10, 16, 17, 18, 19, 20, 21, 22, 23, 24, 25, 26, 38, 39, 40, 41, 42, 43, 44] (by decide +kernel) (by decide +kernel)
set_option maxRecDepth 20000 in
theorem gX9_register_X4_atPlace : GoodIn wsX9_register (wsV RX9 172 RX4 yX4_atPlace wsX4_atPlace) := goodIn_app (goodIn_of _ (by decide +kernel)) ggX9_register_X4_atPlace
theorem dX9_register_0 : decode cX9_register 0 = .ok (.iload_n 1, 1) := by decide +kernel
theorem dX9_register_1 : decode cX9_register 1 = .ok (.bipush 6, 2) := by decide +kernel
theorem dX9_register_3 : decode cX9_register 3 = .ok (.invokestatic 140, 3) := by decide +kernel
theorem dX9_register_6 : decode cX9_register 6 = .ok (.ifCond .ne 6, 3) := by decide +kernel
theorem dX9_register_9 : decode cX9_register 9 = .ok (.bipush (-2), 2) := by decide +kernel
theorem dX9_register_11 : decode cX9_register 11 = .ok (.ireturn, 1) := by decide +kernel
theorem dX9_register_12 : decode cX9_register 12 = .ok (.aload_n 0, 1) := by decide +kernel
theorem dX9_register_13 : decode cX9_register 13 = .ok (.getfield 20, 3) := by decide +kernel
theorem dX9_register_16 : decode cX9_register 16 = .ok (.getfield 104, 3) := by decide +kernel
theorem dX9_register_19 : decode cX9_register 19 = .ok (.ifCond .ne 6, 3) := by decide +kernel
theorem dX9_register_22 : decode cX9_register 22 = .ok (.bipush (-3), 2) := by decide +kernel
theorem dX9_register_24 : decode cX9_register 24 = .ok (.ireturn, 1) := by decide +kernel
theorem dX9_register_25 : decode cX9_register 25 = .ok (.aload_n 0, 1) := by decide +kernel
theorem dX9_register_26 : decode cX9_register 26 = .ok (.getfield 20, 3) := by decide +kernel
theorem dX9_register_29 : decode cX9_register 29 = .ok (.iload_n 1, 1) := by decide +kernel
theorem dX9_register_30 : decode cX9_register 30 = .ok (.invokevirtual 172, 3) := by decide +kernel
theorem dX9_register_33 : decode cX9_register 33 = .ok (.ireturn, 1) := by decide +kernel
set_option maxRecDepth 20000 in
theorem ggX9_turn_X4_hasPerson : GoodIn wsX9_turn wsX4_hasPerson := goodIn_r _ [6, 7, 8, 9, 10, 36, 37, 38] (by decide +kernel) (by decide +kernel)
set_option maxRecDepth 20000 in
theorem gX9_turn_X4_hasPerson : GoodIn wsX9_turn (wsV RX9 105 RX4 yX4_hasPerson wsX4_hasPerson) := goodIn_app (goodIn_of _ (by decide +kernel)) ggX9_turn_X4_hasPerson
set_option maxRecDepth 20000 in
theorem ggX9_turn_X4_questionsAheadOf : GoodIn wsX9_turn wsX4_questionsAheadOf := goodIn_r _ [14, 7, 15, 16, 17, 5, 18, 19, 20, 21, 22, 23, 24, 36, 37, 38, 39, 40, 41, 42] (by decide +kernel) (by decide +kernel)
set_option maxRecDepth 20000 in
theorem gX9_turn_X4_questionsAheadOf : GoodIn wsX9_turn (wsV RX9 175 RX4 yX4_questionsAheadOf wsX4_questionsAheadOf) := goodIn_app (goodIn_of _ (by decide +kernel)) ggX9_turn_X4_questionsAheadOf
theorem dX9_turn_0 : decode cX9_turn 0 = .ok (.aload_n 0, 1) := by decide +kernel
theorem dX9_turn_1 : decode cX9_turn 1 = .ok (.getfield 20, 3) := by decide +kernel
theorem dX9_turn_4 : decode cX9_turn 4 = .ok (.iload_n 1, 1) := by decide +kernel
theorem dX9_turn_5 : decode cX9_turn 5 = .ok (.invokevirtual 105, 3) := by decide +kernel
theorem dX9_turn_8 : decode cX9_turn 8 = .ok (.ifCond .eq 14, 3) := by decide +kernel
theorem dX9_turn_11 : decode cX9_turn 11 = .ok (.aload_n 0, 1) := by decide +kernel
theorem dX9_turn_12 : decode cX9_turn 12 = .ok (.getfield 20, 3) := by decide +kernel
theorem dX9_turn_15 : decode cX9_turn 15 = .ok (.iload_n 1, 1) := by decide +kernel
theorem dX9_turn_16 : decode cX9_turn 16 = .ok (.invokevirtual 175, 3) := by decide +kernel
theorem dX9_turn_19 : decode cX9_turn 19 = .ok (.goto 4, 3) := by decide +kernel
theorem dX9_turn_22 : decode cX9_turn 22 = .ok (.iconst (-1), 1) := by decide +kernel
theorem dX9_turn_23 : decode cX9_turn 23 = .ok (.ireturn, 1) := by decide +kernel
set_option maxRecDepth 20000 in
theorem ggX9_steer_X4_hasMatter : GoodIn wsX9_steer wsX4_hasMatter := goodIn_r _ [6, 7, 8, 9, 10, 49, 50, 51] (by decide +kernel) (by decide +kernel)
set_option maxRecDepth 20000 in
theorem gX9_steer_X4_hasMatter : GoodIn wsX9_steer (wsV RX9 133 RX4 yX4_hasMatter wsX4_hasMatter) := goodIn_app (goodIn_of _ (by decide +kernel)) ggX9_steer_X4_hasMatter
set_option maxRecDepth 20000 in
theorem ggX9_steer_X4_feintsTillKnown : GoodIn wsX9_steer wsX4_feintsTillKnown := goodIn_r _ [14, 7, 15, 16, 17, 18, 19, 20, 21, 22, 23, 24, 25, 26, 27, 28, 5, 29, 30, 31, 32, 33, 34, 35, 36, 37, 49, 50, 51, 52, 53, 54, 55] (by decide +kernel) (by decide +kernel)
set_option maxRecDepth 20000 in
theorem gX9_steer_X4_feintsTillKnown : GoodIn wsX9_steer (wsV RX9 178 RX4 yX4_feintsTillKnown wsX4_feintsTillKnown) := goodIn_app (goodIn_of _ (by decide +kernel)) ggX9_steer_X4_feintsTillKnown
theorem dX9_steer_0 : decode cX9_steer 0 = .ok (.aload_n 0, 1) := by decide +kernel
theorem dX9_steer_1 : decode cX9_steer 1 = .ok (.getfield 20, 3) := by decide +kernel
theorem dX9_steer_4 : decode cX9_steer 4 = .ok (.iload_n 1, 1) := by decide +kernel
theorem dX9_steer_5 : decode cX9_steer 5 = .ok (.invokevirtual 133, 3) := by decide +kernel
theorem dX9_steer_8 : decode cX9_steer 8 = .ok (.ifCond .eq 14, 3) := by decide +kernel
theorem dX9_steer_11 : decode cX9_steer 11 = .ok (.aload_n 0, 1) := by decide +kernel
theorem dX9_steer_12 : decode cX9_steer 12 = .ok (.getfield 20, 3) := by decide +kernel
theorem dX9_steer_15 : decode cX9_steer 15 = .ok (.iload_n 1, 1) := by decide +kernel
theorem dX9_steer_16 : decode cX9_steer 16 = .ok (.invokevirtual 178, 3) := by decide +kernel
theorem dX9_steer_19 : decode cX9_steer 19 = .ok (.goto 4, 3) := by decide +kernel
theorem dX9_steer_22 : decode cX9_steer 22 = .ok (.iconst (-1), 1) := by decide +kernel
theorem dX9_steer_23 : decode cX9_steer 23 = .ok (.ireturn, 1) := by decide +kernel
set_option maxRecDepth 20000 in
theorem ggX9_even_X4_questionsTillEven : GoodIn wsX9_even wsX4_questionsTillEven := goodIn_r _ [7, 8, 9, 10, 11, 12, 13, 14, 26, 27, 28, 29, 30, 31, 32] (by decide +kernel) (by decide +kernel)
set_option maxRecDepth 20000 in
theorem gX9_even_X4_questionsTillEven : GoodIn wsX9_even (wsV RX9 181 RX4 yX4_questionsTillEven wsX4_questionsTillEven) := goodIn_app (goodIn_of _ (by decide +kernel)) ggX9_even_X4_questionsTillEven
theorem dX9_even_0 : decode cX9_even 0 = .ok (.aload_n 0, 1) := by decide +kernel
theorem dX9_even_1 : decode cX9_even 1 = .ok (.getfield 20, 3) := by decide +kernel
theorem dX9_even_4 : decode cX9_even 4 = .ok (.getfield 104, 3) := by decide +kernel
theorem dX9_even_7 : decode cX9_even 7 = .ok (.ifCond .ne 8, 3) := by decide +kernel
theorem dX9_even_10 : decode cX9_even 10 = .ok (.bipush (-3), 2) := by decide +kernel
theorem dX9_even_12 : decode cX9_even 12 = .ok (.goto 10, 3) := by decide +kernel
theorem dX9_even_15 : decode cX9_even 15 = .ok (.aload_n 0, 1) := by decide +kernel
theorem dX9_even_16 : decode cX9_even 16 = .ok (.getfield 20, 3) := by decide +kernel
theorem dX9_even_19 : decode cX9_even 19 = .ok (.invokevirtual 181, 3) := by decide +kernel
theorem dX9_even_22 : decode cX9_even 22 = .ok (.ireturn, 1) := by decide +kernel
set_option maxRecDepth 20000 in
theorem ggX9_plan_X9_isSheet : GoodIn wsX9_plan wsX9_isSheet := goodIn_r _ [11, 12, 13, 10, 14] (by decide +kernel) (by decide +kernel)
set_option maxRecDepth 20000 in
theorem gX9_plan_X9_isSheet : GoodIn wsX9_plan (va_wsS RX9 73 yX9_isSheet wsX9_isSheet) := goodIn_app (goodIn_of _ (by decide +kernel)) ggX9_plan_X9_isSheet
set_option maxRecDepth 20000 in
theorem ggX9_plan_X9_isLane : GoodIn wsX9_plan wsX9_isLane := goodIn_r _ [17] (by decide +kernel) (by decide +kernel)
set_option maxRecDepth 20000 in
theorem gX9_plan_X9_isLane : GoodIn wsX9_plan (va_wsS RX9 77 yX9_isLane wsX9_isLane) := goodIn_app (goodIn_of _ (by decide +kernel)) ggX9_plan_X9_isLane
set_option maxRecDepth 20000 in
theorem ggX9_plan_X9_rowFault : GoodIn wsX9_plan wsX9_rowFault := goodIn_r _ [20, 21, 22, 23, 24, 25, 26, 27, 28, 29, 30, 31, 32, 125, 126, 127, 128] (by decide +kernel) (by decide +kernel)
set_option maxRecDepth 20000 in
theorem gX9_plan_X9_rowFault : GoodIn wsX9_plan (va_wsS RX9 153 yX9_rowFault wsX9_rowFault) := goodIn_app (goodIn_of _ (by decide +kernel)) ggX9_plan_X9_rowFault
set_option maxRecDepth 20000 in
theorem ggX9_plan_X9_failed : GoodIn wsX9_plan wsX9_failed := goodIn_r _ [36, 1, 111, 112, 113, 114, 115, 116, 117, 118, 119, 120, 121] (by decide +kernel) (by decide +kernel)
set_option maxRecDepth 20000 in
theorem gX9_plan_X9_failed : GoodIn wsX9_plan (wsV RX9 88 RX9 yX9_failed wsX9_failed) := goodIn_app (goodIn_of _ (by decide +kernel)) ggX9_plan_X9_failed
set_option maxRecDepth 20000 in
theorem ggX9_plan_X4_hasMatter : GoodIn wsX9_plan wsX4_hasMatter := goodIn_r _ [41, 42, 13, 10, 14, 122, 123, 124] (by decide +kernel) (by decide +kernel)
set_option maxRecDepth 20000 in
theorem gX9_plan_X4_hasMatter : GoodIn wsX9_plan (wsV RX9 133 RX4 yX4_hasMatter wsX4_hasMatter) := goodIn_app (goodIn_of _ (by decide +kernel)) ggX9_plan_X4_hasMatter
set_option maxRecDepth 20000 in
theorem ggX9_plan_X4_becomeLike : GoodIn wsX9_plan wsX4_becomeLike := goodIn_r _ [46, 42, 47, 48, 49, 50, 51, 52, 53, 54, 55, 56, 57, 58, 59, 60, 61, 122, 123, 124, 129, 130, 131, 132] (by decide +kernel) (by decide +kernel)
set_option maxRecDepth 20000 in
theorem gX9_plan_X4_becomeLike : GoodIn wsX9_plan (wsV RX9 161 RX4 yX4_becomeLike wsX4_becomeLike) := goodIn_app (goodIn_of _ (by decide +kernel)) ggX9_plan_X4_becomeLike
set_option maxRecDepth 20000 in
theorem ggX9_plan_X3_make : GoodIn wsX9_plan wsX3_make := goodIn_r _ [66, 67, 68, 69, 70, 71, 72, 73, 74, 75, 76, 77, 40, 78, 42, 52, 79, 80, 81, 82, 65, 83, 84, 85, 86, 87, 88, 89, 90, 91, 92, 93, 94, 95, 96, 97, 98, 47, 99, 100, 101, 56, 102, 58, 61, 103, 104, 105, 106, 60, 133, 134, 135, 136, 137, 125, 126, 127, 128, 122, 123, 124, 129, 130, 131, 132] (by decide +kernel) (by decide +kernel)
set_option maxRecDepth 20000 in
theorem gX9_plan_X3_make : GoodIn wsX9_plan (wsV RX9 187 RX3 yX3_make wsX3_make) := goodIn_app (goodIn_of _ (by decide +kernel)) ggX9_plan_X3_make
set_option maxRecDepth 20000 in
theorem ggX9_plan_X3_answer : GoodIn wsX9_plan wsX3_answer := goodIn_r _ [110, 73, 67, 74, 133, 134, 135, 136, 137] (by decide +kernel) (by decide +kernel)
set_option maxRecDepth 20000 in
theorem gX9_plan_X3_answer : GoodIn wsX9_plan (wsV RX9 190 RX3 yX3_answer wsX3_answer) := goodIn_app (goodIn_of _ (by decide +kernel)) ggX9_plan_X3_answer
theorem dX9_plan_0 : decode cX9_plan 0 = .ok (.aload_n 0, 1) := by decide +kernel
theorem dX9_plan_1 : decode cX9_plan 1 = .ok (.iconst 0, 1) := by decide +kernel
theorem dX9_plan_2 : decode cX9_plan 2 = .ok (.putfield 69, 3) := by decide +kernel
theorem dX9_plan_5 : decode cX9_plan 5 = .ok (.iload_n 1, 1) := by decide +kernel
theorem dX9_plan_6 : decode cX9_plan 6 = .ok (.invokestatic 73, 3) := by decide +kernel
theorem dX9_plan_9 : decode cX9_plan 9 = .ok (.ifCond .ne 5, 3) := by decide +kernel
theorem dX9_plan_12 : decode cX9_plan 12 = .ok (.iconst (-1), 1) := by decide +kernel
theorem dX9_plan_13 : decode cX9_plan 13 = .ok (.ireturn, 1) := by decide +kernel
theorem dX9_plan_14 : decode cX9_plan 14 = .ok (.iload_n 2, 1) := by decide +kernel
theorem dX9_plan_15 : decode cX9_plan 15 = .ok (.invokestatic 77, 3) := by decide +kernel
theorem dX9_plan_18 : decode cX9_plan 18 = .ok (.ifCond .eq 28, 3) := by decide +kernel
theorem dX9_plan_21 : decode cX9_plan 21 = .ok (.iload 4, 2) := by decide +kernel
theorem dX9_plan_23 : decode cX9_plan 23 = .ok (.ifCond .lt 23, 3) := by decide +kernel
theorem dX9_plan_26 : decode cX9_plan 26 = .ok (.iload 4, 2) := by decide +kernel
theorem dX9_plan_28 : decode cX9_plan 28 = .ok (.bipush 7, 2) := by decide +kernel
theorem dX9_plan_30 : decode cX9_plan 30 = .ok (.if_icmp .gt 16, 3) := by decide +kernel
theorem dX9_plan_33 : decode cX9_plan 33 = .ok (.iload 5, 2) := by decide +kernel
theorem dX9_plan_35 : decode cX9_plan 35 = .ok (.iconst (-1), 1) := by decide +kernel
theorem dX9_plan_36 : decode cX9_plan 36 = .ok (.if_icmp .lt 10, 3) := by decide +kernel
theorem dX9_plan_39 : decode cX9_plan 39 = .ok (.iload 5, 2) := by decide +kernel
theorem dX9_plan_41 : decode cX9_plan 41 = .ok (.bipush 7, 2) := by decide +kernel
theorem dX9_plan_43 : decode cX9_plan 43 = .ok (.if_icmp .lt 6, 3) := by decide +kernel
theorem dX9_plan_46 : decode cX9_plan 46 = .ok (.bipush (-2), 2) := by decide +kernel
theorem dX9_plan_48 : decode cX9_plan 48 = .ok (.ireturn, 1) := by decide +kernel
theorem dX9_plan_49 : decode cX9_plan 49 = .ok (.aload_n 0, 1) := by decide +kernel
theorem dX9_plan_50 : decode cX9_plan 50 = .ok (.getfield 13, 3) := by decide +kernel
theorem dX9_plan_53 : decode cX9_plan 53 = .ok (.iload_n 1, 1) := by decide +kernel
theorem dX9_plan_54 : decode cX9_plan 54 = .ok (.aaload, 1) := by decide +kernel
theorem dX9_plan_55 : decode cX9_plan 55 = .ok (.iload_n 2, 1) := by decide +kernel
theorem dX9_plan_56 : decode cX9_plan 56 = .ok (.iload_n 3, 1) := by decide +kernel
theorem dX9_plan_57 : decode cX9_plan 57 = .ok (.iload 4, 2) := by decide +kernel
theorem dX9_plan_59 : decode cX9_plan 59 = .ok (.invokestatic 153, 3) := by decide +kernel
theorem dX9_plan_62 : decode cX9_plan 62 = .ok (.istore 6, 2) := by decide +kernel
theorem dX9_plan_64 : decode cX9_plan 64 = .ok (.iload 6, 2) := by decide +kernel
theorem dX9_plan_66 : decode cX9_plan 66 = .ok (.ifCond .eq 10, 3) := by decide +kernel
theorem dX9_plan_69 : decode cX9_plan 69 = .ok (.aload_n 0, 1) := by decide +kernel
theorem dX9_plan_70 : decode cX9_plan 70 = .ok (.iload 6, 2) := by decide +kernel
theorem dX9_plan_72 : decode cX9_plan 72 = .ok (.invokevirtual 88, 3) := by decide +kernel
theorem dX9_plan_75 : decode cX9_plan 75 = .ok (.ireturn, 1) := by decide +kernel
theorem dX9_plan_76 : decode cX9_plan 76 = .ok (.aload_n 0, 1) := by decide +kernel
theorem dX9_plan_77 : decode cX9_plan 77 = .ok (.getfield 20, 3) := by decide +kernel
theorem dX9_plan_80 : decode cX9_plan 80 = .ok (.getfield 104, 3) := by decide +kernel
theorem dX9_plan_83 : decode cX9_plan 83 = .ok (.ifCond .ne 6, 3) := by decide +kernel
theorem dX9_plan_86 : decode cX9_plan 86 = .ok (.bipush (-3), 2) := by decide +kernel
theorem dX9_plan_88 : decode cX9_plan 88 = .ok (.ireturn, 1) := by decide +kernel
theorem dX9_plan_89 : decode cX9_plan 89 = .ok (.iconst 0, 1) := by decide +kernel
theorem dX9_plan_90 : decode cX9_plan 90 = .ok (.istore 7, 2) := by decide +kernel
theorem dX9_plan_92 : decode cX9_plan 92 = .ok (.iload 7, 2) := by decide +kernel
theorem dX9_plan_94 : decode cX9_plan 94 = .ok (.iload 4, 2) := by decide +kernel
theorem dX9_plan_96 : decode cX9_plan 96 = .ok (.if_icmp .ge 35, 3) := by decide +kernel
theorem dX9_plan_99 : decode cX9_plan 99 = .ok (.aload_n 0, 1) := by decide +kernel
theorem dX9_plan_100 : decode cX9_plan 100 = .ok (.getfield 20, 3) := by decide +kernel
theorem dX9_plan_103 : decode cX9_plan 103 = .ok (.aload_n 0, 1) := by decide +kernel
theorem dX9_plan_104 : decode cX9_plan 104 = .ok (.getfield 13, 3) := by decide +kernel
theorem dX9_plan_107 : decode cX9_plan 107 = .ok (.iload_n 1, 1) := by decide +kernel
theorem dX9_plan_108 : decode cX9_plan 108 = .ok (.aaload, 1) := by decide +kernel
theorem dX9_plan_109 : decode cX9_plan 109 = .ok (.getfield 184, 3) := by decide +kernel
theorem dX9_plan_112 : decode cX9_plan 112 = .ok (.iload_n 3, 1) := by decide +kernel
theorem dX9_plan_113 : decode cX9_plan 113 = .ok (.iload 7, 2) := by decide +kernel
theorem dX9_plan_115 : decode cX9_plan 115 = .ok (.iadd, 1) := by decide +kernel
theorem dX9_plan_116 : decode cX9_plan 116 = .ok (.iaload, 1) := by decide +kernel
theorem dX9_plan_117 : decode cX9_plan 117 = .ok (.invokevirtual 133, 3) := by decide +kernel
theorem dX9_plan_120 : decode cX9_plan 120 = .ok (.ifCond .ne 5, 3) := by decide +kernel
theorem dX9_plan_123 : decode cX9_plan 123 = .ok (.iconst (-1), 1) := by decide +kernel
theorem dX9_plan_124 : decode cX9_plan 124 = .ok (.ireturn, 1) := by decide +kernel
theorem dX9_plan_125 : decode cX9_plan 125 = .ok (.iinc 7 1, 3) := by decide +kernel
theorem dX9_plan_128 : decode cX9_plan 128 = .ok (.goto (-36), 3) := by decide +kernel
theorem dX9_plan_131 : decode cX9_plan 131 = .ok (.aload_n 0, 1) := by decide +kernel
theorem dX9_plan_132 : decode cX9_plan 132 = .ok (.getfield 24, 3) := by decide +kernel
theorem dX9_plan_135 : decode cX9_plan 135 = .ok (.aload_n 0, 1) := by decide +kernel
theorem dX9_plan_136 : decode cX9_plan 136 = .ok (.getfield 20, 3) := by decide +kernel
theorem dX9_plan_139 : decode cX9_plan 139 = .ok (.invokevirtual 161, 3) := by decide +kernel
theorem dX9_plan_142 : decode cX9_plan 142 = .ok (.aload_n 0, 1) := by decide +kernel
theorem dX9_plan_143 : decode cX9_plan 143 = .ok (.getfield 37, 3) := by decide +kernel
theorem dX9_plan_146 : decode cX9_plan 146 = .ok (.aload_n 0, 1) := by decide +kernel
theorem dX9_plan_147 : decode cX9_plan 147 = .ok (.getfield 13, 3) := by decide +kernel
theorem dX9_plan_150 : decode cX9_plan 150 = .ok (.iload_n 1, 1) := by decide +kernel
theorem dX9_plan_151 : decode cX9_plan 151 = .ok (.aaload, 1) := by decide +kernel
theorem dX9_plan_152 : decode cX9_plan 152 = .ok (.iload_n 3, 1) := by decide +kernel
theorem dX9_plan_153 : decode cX9_plan 153 = .ok (.iload 4, 2) := by decide +kernel
theorem dX9_plan_155 : decode cX9_plan 155 = .ok (.aload_n 0, 1) := by decide +kernel
theorem dX9_plan_156 : decode cX9_plan 156 = .ok (.getfield 24, 3) := by decide +kernel
theorem dX9_plan_159 : decode cX9_plan 159 = .ok (.invokevirtual 187, 3) := by decide +kernel
theorem dX9_plan_162 : decode cX9_plan 162 = .ok (.aload_n 0, 1) := by decide +kernel
theorem dX9_plan_163 : decode cX9_plan 163 = .ok (.getfield 37, 3) := by decide +kernel
theorem dX9_plan_166 : decode cX9_plan 166 = .ok (.iload 5, 2) := by decide +kernel
theorem dX9_plan_168 : decode cX9_plan 168 = .ok (.invokevirtual 190, 3) := by decide +kernel
theorem dX9_plan_171 : decode cX9_plan 171 = .ok (.ireturn, 1) := by decide +kernel
set_option maxRecDepth 20000 in
theorem ggX9_best_X1_give : GoodIn wsX9_best wsX1_give := goodIn_r _ [10, 11, 12, 13, 14, 15, 9, 16, 17, 18, 19, 20, 21, 22, 23, 24, 25, 26, 27, 28, 29, 30, 31, 32, 33, 34, 35, 36, 37, 38, 39, 40, 41, 42, 43, 44, 45, 46, 47, 48, 49, 50, 51, 63, 64, 65, 66, 67, 68, 69, 70, 71] (by decide +kernel) (by decide +kernel)
set_option maxRecDepth 20000 in
theorem gX9_best_X1_give : GoodIn wsX9_best (wsV RX9 192 RX1 yX1_give wsX1_give) := goodIn_app (goodIn_of _ (by decide +kernel)) ggX9_best_X1_give
theorem dX9_best_0 : decode cX9_best 0 = .ok (.iload_n 1, 1) := by decide +kernel
theorem dX9_best_1 : decode cX9_best 1 = .ok (.iconst (-1), 1) := by decide +kernel
theorem dX9_best_2 : decode cX9_best 2 = .ok (.if_icmp .lt 8, 3) := by decide +kernel
theorem dX9_best_5 : decode cX9_best 5 = .ok (.iload_n 1, 1) := by decide +kernel
theorem dX9_best_6 : decode cX9_best 6 = .ok (.iconst 3, 1) := by decide +kernel
theorem dX9_best_7 : decode cX9_best 7 = .ok (.if_icmp .lt 6, 3) := by decide +kernel
theorem dX9_best_10 : decode cX9_best 10 = .ok (.bipush (-2), 2) := by decide +kernel
theorem dX9_best_12 : decode cX9_best 12 = .ok (.ireturn, 1) := by decide +kernel
theorem dX9_best_13 : decode cX9_best 13 = .ok (.aload_n 0, 1) := by decide +kernel
theorem dX9_best_14 : decode cX9_best 14 = .ok (.getfield 20, 3) := by decide +kernel
theorem dX9_best_17 : decode cX9_best 17 = .ok (.getfield 104, 3) := by decide +kernel
theorem dX9_best_20 : decode cX9_best 20 = .ok (.ifCond .ne 6, 3) := by decide +kernel
theorem dX9_best_23 : decode cX9_best 23 = .ok (.bipush (-3), 2) := by decide +kernel
theorem dX9_best_25 : decode cX9_best 25 = .ok (.ireturn, 1) := by decide +kernel
theorem dX9_best_26 : decode cX9_best 26 = .ok (.aload_n 0, 1) := by decide +kernel
theorem dX9_best_27 : decode cX9_best 27 = .ok (.getfield 44, 3) := by decide +kernel
theorem dX9_best_30 : decode cX9_best 30 = .ok (.aload_n 0, 1) := by decide +kernel
theorem dX9_best_31 : decode cX9_best 31 = .ok (.getfield 20, 3) := by decide +kernel
theorem dX9_best_34 : decode cX9_best 34 = .ok (.invokevirtual 192, 3) := by decide +kernel
theorem dX9_best_37 : decode cX9_best 37 = .ok (.iload_n 1, 1) := by decide +kernel
theorem dX9_best_38 : decode cX9_best 38 = .ok (.iconst (-1), 1) := by decide +kernel
theorem dX9_best_39 : decode cX9_best 39 = .ok (.if_icmp .ne 13, 3) := by decide +kernel
theorem dX9_best_42 : decode cX9_best 42 = .ok (.aload_n 0, 1) := by decide +kernel
theorem dX9_best_43 : decode cX9_best 43 = .ok (.getfield 44, 3) := by decide +kernel
theorem dX9_best_46 : decode cX9_best 46 = .ok (.getfield 195, 3) := by decide +kernel
theorem dX9_best_49 : decode cX9_best 49 = .ok (.goto 12, 3) := by decide +kernel
theorem dX9_best_52 : decode cX9_best 52 = .ok (.aload_n 0, 1) := by decide +kernel
theorem dX9_best_53 : decode cX9_best 53 = .ok (.getfield 44, 3) := by decide +kernel
theorem dX9_best_56 : decode cX9_best 56 = .ok (.getfield 198, 3) := by decide +kernel
theorem dX9_best_59 : decode cX9_best 59 = .ok (.iload_n 1, 1) := by decide +kernel
theorem dX9_best_60 : decode cX9_best 60 = .ok (.iaload, 1) := by decide +kernel
theorem dX9_best_61 : decode cX9_best 61 = .ok (.ireturn, 1) := by decide +kernel
set_option maxRecDepth 20000 in
theorem ggX9_reading_X4_hasPerson : GoodIn wsX9_reading wsX4_hasPerson := goodIn_r _ [8, 9, 10, 11, 12, 41, 42, 43] (by decide +kernel) (by decide +kernel)
set_option maxRecDepth 20000 in
theorem gX9_reading_X4_hasPerson : GoodIn wsX9_reading (wsV RX9 105 RX4 yX4_hasPerson wsX4_hasPerson) := goodIn_app (goodIn_of _ (by decide +kernel)) ggX9_reading_X4_hasPerson
set_option maxRecDepth 20000 in
theorem ggX9_reading_X4_hasMatter : GoodIn wsX9_reading wsX4_hasMatter := goodIn_r _ [16, 9, 10, 11, 12, 41, 42, 43] (by decide +kernel) (by decide +kernel)
set_option maxRecDepth 20000 in
theorem gX9_reading_X4_hasMatter : GoodIn wsX9_reading (wsV RX9 133 RX4 yX4_hasMatter wsX4_hasMatter) := goodIn_app (goodIn_of _ (by decide +kernel)) ggX9_reading_X4_hasMatter
set_option maxRecDepth 20000 in
theorem ggX9_reading_X5_take : GoodIn wsX9_reading wsX5_take := goodIn_r _ [21, 22, 23, 24, 25, 37, 38, 39, 40] (by decide +kernel) (by decide +kernel)
set_option maxRecDepth 20000 in
theorem gX9_reading_X5_take : GoodIn wsX9_reading (wsV RX9 201 RX5 yX5_take wsX5_take) := goodIn_app (goodIn_of _ (by decide +kernel)) ggX9_reading_X5_take
theorem dX9_reading_0 : decode cX9_reading 0 = .ok (.aload_n 0, 1) := by decide +kernel
theorem dX9_reading_1 : decode cX9_reading 1 = .ok (.getfield 20, 3) := by decide +kernel
theorem dX9_reading_4 : decode cX9_reading 4 = .ok (.iload_n 1, 1) := by decide +kernel
theorem dX9_reading_5 : decode cX9_reading 5 = .ok (.invokevirtual 105, 3) := by decide +kernel
theorem dX9_reading_8 : decode cX9_reading 8 = .ok (.ifCond .eq 14, 3) := by decide +kernel
theorem dX9_reading_11 : decode cX9_reading 11 = .ok (.aload_n 0, 1) := by decide +kernel
theorem dX9_reading_12 : decode cX9_reading 12 = .ok (.getfield 20, 3) := by decide +kernel
theorem dX9_reading_15 : decode cX9_reading 15 = .ok (.iload_n 2, 1) := by decide +kernel
theorem dX9_reading_16 : decode cX9_reading 16 = .ok (.invokevirtual 133, 3) := by decide +kernel
theorem dX9_reading_19 : decode cX9_reading 19 = .ok (.ifCond .ne 5, 3) := by decide +kernel
theorem dX9_reading_22 : decode cX9_reading 22 = .ok (.iconst (-1), 1) := by decide +kernel
theorem dX9_reading_23 : decode cX9_reading 23 = .ok (.ireturn, 1) := by decide +kernel
theorem dX9_reading_24 : decode cX9_reading 24 = .ok (.iload_n 3, 1) := by decide +kernel
theorem dX9_reading_25 : decode cX9_reading 25 = .ok (.ifCond .lt 10, 3) := by decide +kernel
theorem dX9_reading_28 : decode cX9_reading 28 = .ok (.iload_n 3, 1) := by decide +kernel
theorem dX9_reading_29 : decode cX9_reading 29 = .ok (.sipush 200, 3) := by decide +kernel
theorem dX9_reading_32 : decode cX9_reading 32 = .ok (.if_icmp .le 6, 3) := by decide +kernel
theorem dX9_reading_35 : decode cX9_reading 35 = .ok (.bipush (-2), 2) := by decide +kernel
theorem dX9_reading_37 : decode cX9_reading 37 = .ok (.ireturn, 1) := by decide +kernel
theorem dX9_reading_38 : decode cX9_reading 38 = .ok (.aload_n 0, 1) := by decide +kernel
theorem dX9_reading_39 : decode cX9_reading 39 = .ok (.getfield 51, 3) := by decide +kernel
theorem dX9_reading_42 : decode cX9_reading 42 = .ok (.getfield 101, 3) := by decide +kernel
theorem dX9_reading_45 : decode cX9_reading 45 = .ok (.bipush 8, 2) := by decide +kernel
theorem dX9_reading_47 : decode cX9_reading 47 = .ok (.if_icmp .lt 6, 3) := by decide +kernel
theorem dX9_reading_50 : decode cX9_reading 50 = .ok (.bipush (-4), 2) := by decide +kernel
theorem dX9_reading_52 : decode cX9_reading 52 = .ok (.ireturn, 1) := by decide +kernel
theorem dX9_reading_53 : decode cX9_reading 53 = .ok (.aload_n 0, 1) := by decide +kernel
theorem dX9_reading_54 : decode cX9_reading 54 = .ok (.getfield 51, 3) := by decide +kernel
theorem dX9_reading_57 : decode cX9_reading 57 = .ok (.iload_n 1, 1) := by decide +kernel
theorem dX9_reading_58 : decode cX9_reading 58 = .ok (.iload_n 2, 1) := by decide +kernel
theorem dX9_reading_59 : decode cX9_reading 59 = .ok (.iload_n 3, 1) := by decide +kernel
theorem dX9_reading_60 : decode cX9_reading 60 = .ok (.invokevirtual 201, 3) := by decide +kernel
theorem dX9_reading_63 : decode cX9_reading 63 = .ok (.ireturn, 1) := by decide +kernel
theorem dX9_back_0 : decode cX9_back 0 = .ok (.iload_n 1, 1) := by decide +kernel
theorem dX9_back_1 : decode cX9_back 1 = .ok (.ifCond .lt 14, 3) := by decide +kernel
theorem dX9_back_4 : decode cX9_back 4 = .ok (.iload_n 1, 1) := by decide +kernel
theorem dX9_back_5 : decode cX9_back 5 = .ok (.aload_n 0, 1) := by decide +kernel
theorem dX9_back_6 : decode cX9_back 6 = .ok (.getfield 51, 3) := by decide +kernel
theorem dX9_back_9 : decode cX9_back 9 = .ok (.getfield 101, 3) := by decide +kernel
theorem dX9_back_12 : decode cX9_back 12 = .ok (.if_icmp .le 6, 3) := by decide +kernel
theorem dX9_back_15 : decode cX9_back 15 = .ok (.bipush (-2), 2) := by decide +kernel
theorem dX9_back_17 : decode cX9_back 17 = .ok (.ireturn, 1) := by decide +kernel
theorem dX9_back_18 : decode cX9_back 18 = .ok (.aload_n 0, 1) := by decide +kernel
theorem dX9_back_19 : decode cX9_back 19 = .ok (.getfield 51, 3) := by decide +kernel
theorem dX9_back_22 : decode cX9_back 22 = .ok (.dup, 1) := by decide +kernel
theorem dX9_back_23 : decode cX9_back 23 = .ok (.getfield 101, 3) := by decide +kernel
theorem dX9_back_26 : decode cX9_back 26 = .ok (.iload_n 1, 1) := by decide +kernel
theorem dX9_back_27 : decode cX9_back 27 = .ok (.isub, 1) := by decide +kernel
theorem dX9_back_28 : decode cX9_back 28 = .ok (.putfield 101, 3) := by decide +kernel
theorem dX9_back_31 : decode cX9_back 31 = .ok (.aload_n 0, 1) := by decide +kernel
theorem dX9_back_32 : decode cX9_back 32 = .ok (.getfield 51, 3) := by decide +kernel
theorem dX9_back_35 : decode cX9_back 35 = .ok (.getfield 101, 3) := by decide +kernel
theorem dX9_back_38 : decode cX9_back 38 = .ok (.ireturn, 1) := by decide +kernel
set_option maxRecDepth 20000 in
theorem ggX9_knowings_X4_hasPerson : GoodIn wsX9_knowings wsX4_hasPerson := goodIn_r _ [6, 7, 8, 9, 10, 75, 76, 77] (by decide +kernel) (by decide +kernel)
set_option maxRecDepth 20000 in
theorem gX9_knowings_X4_hasPerson : GoodIn wsX9_knowings (wsV RX9 105 RX4 yX4_hasPerson wsX4_hasPerson) := goodIn_app (goodIn_of _ (by decide +kernel)) ggX9_knowings_X4_hasPerson
set_option maxRecDepth 20000 in
theorem ggX9_knowings_X9_possible : GoodIn wsX9_knowings wsX9_possible := goodIn_r _ [14, 15, 1, 16, 17, 18, 19, 5, 20, 7, 21, 22, 23, 24, 25, 26, 27, 28, 29, 30, 31, 32, 33, 34, 35, 36, 37, 38, 39, 40, 41, 42, 43, 44, 45, 46, 47, 48, 49, 50, 51, 52, 53, 54, 55, 56, 57, 58, 59, 60, 61, 62, 63, 64, 65, 66, 67, 68, 69, 70, 71, 72, 73, 74, 75, 76, 77, 78, 79, 80, 81, 82, 83, 84, 85] (by decide +kernel) (by decide +kernel)
set_option maxRecDepth 20000 in
theorem gX9_knowings_X9_possible : GoodIn wsX9_knowings (wsV RX9 205 RX9 yX9_possible wsX9_possible) := goodIn_app (goodIn_of _ (by decide +kernel)) ggX9_knowings_X9_possible
theorem dX9_knowings_0 : decode cX9_knowings 0 = .ok (.aload_n 0, 1) := by decide +kernel
theorem dX9_knowings_1 : decode cX9_knowings 1 = .ok (.getfield 20, 3) := by decide +kernel
theorem dX9_knowings_4 : decode cX9_knowings 4 = .ok (.iload_n 1, 1) := by decide +kernel
theorem dX9_knowings_5 : decode cX9_knowings 5 = .ok (.invokevirtual 105, 3) := by decide +kernel
theorem dX9_knowings_8 : decode cX9_knowings 8 = .ok (.ifCond .eq 14, 3) := by decide +kernel
theorem dX9_knowings_11 : decode cX9_knowings 11 = .ok (.aload_n 0, 1) := by decide +kernel
theorem dX9_knowings_12 : decode cX9_knowings 12 = .ok (.iconst 0, 1) := by decide +kernel
theorem dX9_knowings_13 : decode cX9_knowings 13 = .ok (.iload_n 1, 1) := by decide +kernel
theorem dX9_knowings_14 : decode cX9_knowings 14 = .ok (.bipush 8, 2) := by decide +kernel
theorem dX9_knowings_16 : decode cX9_knowings 16 = .ok (.invokevirtual 205, 3) := by decide +kernel
theorem dX9_knowings_19 : decode cX9_knowings 19 = .ok (.goto 4, 3) := by decide +kernel
theorem dX9_knowings_22 : decode cX9_knowings 22 = .ok (.iconst (-1), 1) := by decide +kernel
theorem dX9_knowings_23 : decode cX9_knowings 23 = .ok (.ireturn, 1) := by decide +kernel
set_option maxRecDepth 20000 in
theorem ggX9_wits_X4_hasPerson : GoodIn wsX9_wits wsX4_hasPerson := goodIn_r _ [6, 7, 8, 9, 10, 75, 76, 77] (by decide +kernel) (by decide +kernel)
set_option maxRecDepth 20000 in
theorem gX9_wits_X4_hasPerson : GoodIn wsX9_wits (wsV RX9 105 RX4 yX4_hasPerson wsX4_hasPerson) := goodIn_app (goodIn_of _ (by decide +kernel)) ggX9_wits_X4_hasPerson
set_option maxRecDepth 20000 in
theorem ggX9_wits_X9_possible : GoodIn wsX9_wits wsX9_possible := goodIn_r _ [14, 15, 1, 16, 17, 18, 19, 5, 20, 7, 21, 22, 23, 24, 25, 26, 27, 28, 29, 30, 31, 32, 33, 34, 35, 36, 37, 38, 39, 40, 41, 42, 43, 44, 45, 46, 47, 48, 49, 50, 51, 52, 53, 54, 55, 56, 57, 58, 59, 60, 61, 62, 63, 64, 65, 66, 67, 68, 69, 70, 71, 72, 73, 74, 75, 76, 77, 78, 79, 80, 81, 82, 83, 84, 85] (by decide +kernel) (by decide +kernel)
set_option maxRecDepth 20000 in
theorem gX9_wits_X9_possible : GoodIn wsX9_wits (wsV RX9 205 RX9 yX9_possible wsX9_possible) := goodIn_app (goodIn_of _ (by decide +kernel)) ggX9_wits_X9_possible
theorem dX9_wits_0 : decode cX9_wits 0 = .ok (.aload_n 0, 1) := by decide +kernel
theorem dX9_wits_1 : decode cX9_wits 1 = .ok (.getfield 20, 3) := by decide +kernel
theorem dX9_wits_4 : decode cX9_wits 4 = .ok (.iload_n 1, 1) := by decide +kernel
theorem dX9_wits_5 : decode cX9_wits 5 = .ok (.invokevirtual 105, 3) := by decide +kernel
theorem dX9_wits_8 : decode cX9_wits 8 = .ok (.ifCond .eq 14, 3) := by decide +kernel
theorem dX9_wits_11 : decode cX9_wits 11 = .ok (.aload_n 0, 1) := by decide +kernel
theorem dX9_wits_12 : decode cX9_wits 12 = .ok (.iconst 1, 1) := by decide +kernel
theorem dX9_wits_13 : decode cX9_wits 13 = .ok (.iload_n 1, 1) := by decide +kernel
theorem dX9_wits_14 : decode cX9_wits 14 = .ok (.bipush 10, 2) := by decide +kernel
theorem dX9_wits_16 : decode cX9_wits 16 = .ok (.invokevirtual 205, 3) := by decide +kernel
theorem dX9_wits_19 : decode cX9_wits 19 = .ok (.goto 4, 3) := by decide +kernel
theorem dX9_wits_22 : decode cX9_wits 22 = .ok (.iconst (-1), 1) := by decide +kernel
theorem dX9_wits_23 : decode cX9_wits 23 = .ok (.ireturn, 1) := by decide +kernel
set_option maxRecDepth 20000 in
theorem ggX9_kinds_X4_hasPerson : GoodIn wsX9_kinds wsX4_hasPerson := goodIn_r _ [6, 7, 8, 9, 10, 75, 76, 77] (by decide +kernel) (by decide +kernel)
set_option maxRecDepth 20000 in
theorem gX9_kinds_X4_hasPerson : GoodIn wsX9_kinds (wsV RX9 105 RX4 yX4_hasPerson wsX4_hasPerson) := goodIn_app (goodIn_of _ (by decide +kernel)) ggX9_kinds_X4_hasPerson
set_option maxRecDepth 20000 in
theorem ggX9_kinds_X9_possible : GoodIn wsX9_kinds wsX9_possible := goodIn_r _ [14, 15, 1, 16, 17, 18, 19, 5, 20, 7, 21, 22, 23, 24, 25, 26, 27, 28, 29, 30, 31, 32, 33, 34, 35, 36, 37, 38, 39, 40, 41, 42, 43, 44, 45, 46, 47, 48, 49, 50, 51, 52, 53, 54, 55, 56, 57, 58, 59, 60, 61, 62, 63, 64, 65, 66, 67, 68, 69, 70, 71, 72, 73, 74, 75, 76, 77, 78, 79, 80, 81, 82, 83, 84, 85] (by decide +kernel) (by decide +kernel)
set_option maxRecDepth 20000 in
theorem gX9_kinds_X9_possible : GoodIn wsX9_kinds (wsV RX9 205 RX9 yX9_possible wsX9_possible) := goodIn_app (goodIn_of _ (by decide +kernel)) ggX9_kinds_X9_possible
theorem dX9_kinds_0 : decode cX9_kinds 0 = .ok (.aload_n 0, 1) := by decide +kernel
theorem dX9_kinds_1 : decode cX9_kinds 1 = .ok (.getfield 20, 3) := by decide +kernel
theorem dX9_kinds_4 : decode cX9_kinds 4 = .ok (.iload_n 1, 1) := by decide +kernel
theorem dX9_kinds_5 : decode cX9_kinds 5 = .ok (.invokevirtual 105, 3) := by decide +kernel
theorem dX9_kinds_8 : decode cX9_kinds 8 = .ok (.ifCond .eq 13, 3) := by decide +kernel
theorem dX9_kinds_11 : decode cX9_kinds 11 = .ok (.aload_n 0, 1) := by decide +kernel
theorem dX9_kinds_12 : decode cX9_kinds 12 = .ok (.iconst 2, 1) := by decide +kernel
theorem dX9_kinds_13 : decode cX9_kinds 13 = .ok (.iload_n 1, 1) := by decide +kernel
theorem dX9_kinds_14 : decode cX9_kinds 14 = .ok (.iconst 3, 1) := by decide +kernel
theorem dX9_kinds_15 : decode cX9_kinds 15 = .ok (.invokevirtual 205, 3) := by decide +kernel
theorem dX9_kinds_18 : decode cX9_kinds 18 = .ok (.goto 4, 3) := by decide +kernel
theorem dX9_kinds_21 : decode cX9_kinds 21 = .ok (.iconst (-1), 1) := by decide +kernel
theorem dX9_kinds_22 : decode cX9_kinds 22 = .ok (.ireturn, 1) := by decide +kernel
set_option maxRecDepth 20000 in
theorem ggX9_worths_X4_hasMatter : GoodIn wsX9_worths wsX4_hasMatter := goodIn_r _ [6, 7, 8, 9, 10, 75, 76, 77] (by decide +kernel) (by decide +kernel)
set_option maxRecDepth 20000 in
theorem gX9_worths_X4_hasMatter : GoodIn wsX9_worths (wsV RX9 133 RX4 yX4_hasMatter wsX4_hasMatter) := goodIn_app (goodIn_of _ (by decide +kernel)) ggX9_worths_X4_hasMatter
set_option maxRecDepth 20000 in
theorem ggX9_worths_X9_possible : GoodIn wsX9_worths wsX9_possible := goodIn_r _ [14, 15, 1, 16, 17, 18, 19, 5, 20, 7, 21, 22, 23, 24, 25, 26, 27, 28, 29, 30, 31, 32, 33, 34, 35, 36, 37, 38, 39, 40, 41, 42, 43, 44, 45, 46, 47, 48, 49, 50, 51, 52, 53, 54, 55, 56, 57, 58, 59, 60, 61, 62, 63, 64, 65, 66, 67, 68, 69, 70, 71, 72, 73, 74, 75, 76, 77, 78, 79, 80, 81, 82, 83, 84, 85] (by decide +kernel) (by decide +kernel)
set_option maxRecDepth 20000 in
theorem gX9_worths_X9_possible : GoodIn wsX9_worths (wsV RX9 205 RX9 yX9_possible wsX9_possible) := goodIn_app (goodIn_of _ (by decide +kernel)) ggX9_worths_X9_possible
theorem dX9_worths_0 : decode cX9_worths 0 = .ok (.aload_n 0, 1) := by decide +kernel
theorem dX9_worths_1 : decode cX9_worths 1 = .ok (.getfield 20, 3) := by decide +kernel
theorem dX9_worths_4 : decode cX9_worths 4 = .ok (.iload_n 1, 1) := by decide +kernel
theorem dX9_worths_5 : decode cX9_worths 5 = .ok (.invokevirtual 133, 3) := by decide +kernel
theorem dX9_worths_8 : decode cX9_worths 8 = .ok (.ifCond .eq 14, 3) := by decide +kernel
theorem dX9_worths_11 : decode cX9_worths 11 = .ok (.aload_n 0, 1) := by decide +kernel
theorem dX9_worths_12 : decode cX9_worths 12 = .ok (.iconst 3, 1) := by decide +kernel
theorem dX9_worths_13 : decode cX9_worths 13 = .ok (.iload_n 1, 1) := by decide +kernel
theorem dX9_worths_14 : decode cX9_worths 14 = .ok (.bipush 10, 2) := by decide +kernel
theorem dX9_worths_16 : decode cX9_worths 16 = .ok (.invokevirtual 205, 3) := by decide +kernel
theorem dX9_worths_19 : decode cX9_worths 19 = .ok (.goto 4, 3) := by decide +kernel
theorem dX9_worths_22 : decode cX9_worths 22 = .ok (.iconst (-1), 1) := by decide +kernel
theorem dX9_worths_23 : decode cX9_worths 23 = .ok (.ireturn, 1) := by decide +kernel
set_option maxRecDepth 20000 in
theorem ggX9_odds_X4_hasPerson : GoodIn wsX9_odds wsX4_hasPerson := goodIn_r _ [7, 8, 9, 10, 11, 64, 65, 66] (by decide +kernel) (by decide +kernel)
set_option maxRecDepth 20000 in
theorem gX9_odds_X4_hasPerson : GoodIn wsX9_odds (wsV RX9 105 RX4 yX4_hasPerson wsX4_hasPerson) := goodIn_app (goodIn_of _ (by decide +kernel)) ggX9_odds_X4_hasPerson
set_option maxRecDepth 20000 in
theorem ggX9_odds_X9_waysToBring : GoodIn wsX9_odds wsX9_waysToBring := goodIn_r _ [15, 16, 1, 17, 18, 19, 20, 21, 6, 22, 8, 23, 24, 25, 26, 27, 28, 29, 30, 31, 32, 33, 34, 35, 36, 37, 38, 39, 40, 41, 42, 43, 44, 45, 46, 47, 48, 49, 53, 54, 55, 56, 57, 58, 59, 60, 61, 62, 63, 64, 65, 66, 67, 68, 69, 70] (by decide +kernel) (by decide +kernel)
set_option maxRecDepth 20000 in
theorem gX9_odds_X9_waysToBring : GoodIn wsX9_odds (wsV RX9 210 RX9 yX9_waysToBring wsX9_waysToBring) := goodIn_app (goodIn_of _ (by decide +kernel)) ggX9_odds_X9_waysToBring
set_option maxRecDepth 20000 in
theorem ggX9_odds_X9_commonDivisor : GoodIn wsX9_odds wsX9_commonDivisor := goodIn_r _ [52] (by decide +kernel) (by decide +kernel)
set_option maxRecDepth 20000 in
theorem gX9_odds_X9_commonDivisor : GoodIn wsX9_odds (va_wsS RX9 213 yX9_commonDivisor wsX9_commonDivisor) := goodIn_app (goodIn_of _ (by decide +kernel)) ggX9_odds_X9_commonDivisor
theorem dX9_odds_0 : decode cX9_odds 0 = .ok (.aload_n 0, 1) := by decide +kernel
theorem dX9_odds_1 : decode cX9_odds 1 = .ok (.getfield 20, 3) := by decide +kernel
theorem dX9_odds_4 : decode cX9_odds 4 = .ok (.iload_n 1, 1) := by decide +kernel
theorem dX9_odds_5 : decode cX9_odds 5 = .ok (.invokevirtual 105, 3) := by decide +kernel
theorem dX9_odds_8 : decode cX9_odds 8 = .ok (.ifCond .eq 23, 3) := by decide +kernel
theorem dX9_odds_11 : decode cX9_odds 11 = .ok (.iload_n 2, 1) := by decide +kernel
theorem dX9_odds_12 : decode cX9_odds 12 = .ok (.ifCond .lt 19, 3) := by decide +kernel
theorem dX9_odds_15 : decode cX9_odds 15 = .ok (.iload_n 2, 1) := by decide +kernel
theorem dX9_odds_16 : decode cX9_odds 16 = .ok (.sipush 200, 3) := by decide +kernel
theorem dX9_odds_19 : decode cX9_odds 19 = .ok (.if_icmp .gt 12, 3) := by decide +kernel
theorem dX9_odds_22 : decode cX9_odds 22 = .ok (.iload_n 3, 1) := by decide +kernel
theorem dX9_odds_23 : decode cX9_odds 23 = .ok (.ifCond .lt 8, 3) := by decide +kernel
theorem dX9_odds_26 : decode cX9_odds 26 = .ok (.iload_n 3, 1) := by decide +kernel
theorem dX9_odds_27 : decode cX9_odds 27 = .ok (.iconst 1, 1) := by decide +kernel
theorem dX9_odds_28 : decode cX9_odds 28 = .ok (.if_icmp .le 7, 3) := by decide +kernel
theorem dX9_odds_31 : decode cX9_odds 31 = .ok (.ldc2_w 208, 3) := by decide +kernel
theorem dX9_odds_34 : decode cX9_odds 34 = .ok (.lreturn, 1) := by decide +kernel
theorem dX9_odds_35 : decode cX9_odds 35 = .ok (.bipush 24, 2) := by decide +kernel
theorem dX9_odds_37 : decode cX9_odds 37 = .ok (.istore 4, 2) := by decide +kernel
theorem dX9_odds_39 : decode cX9_odds 39 = .ok (.aload_n 0, 1) := by decide +kernel
theorem dX9_odds_40 : decode cX9_odds 40 = .ok (.iload_n 1, 1) := by decide +kernel
theorem dX9_odds_41 : decode cX9_odds 41 = .ok (.iload_n 2, 1) := by decide +kernel
theorem dX9_odds_42 : decode cX9_odds 42 = .ok (.invokevirtual 210, 3) := by decide +kernel
theorem dX9_odds_45 : decode cX9_odds 45 = .ok (.istore 5, 2) := by decide +kernel
theorem dX9_odds_47 : decode cX9_odds 47 = .ok (.iload 5, 2) := by decide +kernel
theorem dX9_odds_49 : decode cX9_odds 49 = .ok (.iload 4, 2) := by decide +kernel
theorem dX9_odds_51 : decode cX9_odds 51 = .ok (.invokestatic 213, 3) := by decide +kernel
theorem dX9_odds_54 : decode cX9_odds 54 = .ok (.istore 6, 2) := by decide +kernel
theorem dX9_odds_56 : decode cX9_odds 56 = .ok (.iload_n 3, 1) := by decide +kernel
theorem dX9_odds_57 : decode cX9_odds 57 = .ok (.ifCond .ne 12, 3) := by decide +kernel
theorem dX9_odds_60 : decode cX9_odds 60 = .ok (.iload 5, 2) := by decide +kernel
theorem dX9_odds_62 : decode cX9_odds 62 = .ok (.iload 6, 2) := by decide +kernel
theorem dX9_odds_64 : decode cX9_odds 64 = .ok (.idiv, 1) := by decide +kernel
theorem dX9_odds_65 : decode cX9_odds 65 = .ok (.i2l, 1) := by decide +kernel
theorem dX9_odds_66 : decode cX9_odds 66 = .ok (.goto 9, 3) := by decide +kernel
theorem dX9_odds_69 : decode cX9_odds 69 = .ok (.iload 4, 2) := by decide +kernel
theorem dX9_odds_71 : decode cX9_odds 71 = .ok (.iload 6, 2) := by decide +kernel
theorem dX9_odds_73 : decode cX9_odds 73 = .ok (.idiv, 1) := by decide +kernel
theorem dX9_odds_74 : decode cX9_odds 74 = .ok (.i2l, 1) := by decide +kernel
theorem dX9_odds_75 : decode cX9_odds 75 = .ok (.lreturn, 1) := by decide +kernel
set_option maxRecDepth 20000 in
theorem ggX9_sheet_X9_isSheet : GoodIn wsX9_sheet wsX9_isSheet := goodIn_r _ [6, 7, 8, 5, 9] (by decide +kernel) (by decide +kernel)
set_option maxRecDepth 20000 in
theorem gX9_sheet_X9_isSheet : GoodIn wsX9_sheet (va_wsS RX9 73 yX9_isSheet wsX9_isSheet) := goodIn_app (goodIn_of _ (by decide +kernel)) ggX9_sheet_X9_isSheet
set_option maxRecDepth 20000 in
theorem ggX9_sheet_X9_isLane : GoodIn wsX9_sheet wsX9_isLane := goodIn_r _ [12] (by decide +kernel) (by decide +kernel)
set_option maxRecDepth 20000 in
theorem gX9_sheet_X9_isLane : GoodIn wsX9_sheet (va_wsS RX9 77 yX9_isLane wsX9_isLane) := goodIn_app (goodIn_of _ (by decide +kernel)) ggX9_sheet_X9_isLane
set_option maxRecDepth 20000 in
theorem ggX9_sheet_X9_failed : GoodIn wsX9_sheet wsX9_failed := goodIn_r _ [16, 1, 30, 31, 32, 33, 34, 35, 36, 37, 38, 39, 40] (by decide +kernel) (by decide +kernel)
set_option maxRecDepth 20000 in
theorem gX9_sheet_X9_failed : GoodIn wsX9_sheet (wsV RX9 88 RX9 yX9_failed wsX9_failed) := goodIn_app (goodIn_of _ (by decide +kernel)) ggX9_sheet_X9_failed
set_option maxRecDepth 20000 in
theorem ggX9_sheet_X6_begin : GoodIn wsX9_sheet wsX6_begin := goodIn_r _ [21, 22, 23, 24, 25, 26, 27, 28, 29, 41, 42, 43, 44] (by decide +kernel) (by decide +kernel)
set_option maxRecDepth 20000 in
theorem gX9_sheet_X6_begin : GoodIn wsX9_sheet (wsV RX9 216 RX6 yX6_begin wsX6_begin) := goodIn_app (goodIn_of _ (by decide +kernel)) ggX9_sheet_X6_begin
theorem dX9_sheet_0 : decode cX9_sheet 0 = .ok (.aload_n 0, 1) := by decide +kernel
theorem dX9_sheet_1 : decode cX9_sheet 1 = .ok (.iconst 0, 1) := by decide +kernel
theorem dX9_sheet_2 : decode cX9_sheet 2 = .ok (.putfield 69, 3) := by decide +kernel
theorem dX9_sheet_5 : decode cX9_sheet 5 = .ok (.iload_n 1, 1) := by decide +kernel
theorem dX9_sheet_6 : decode cX9_sheet 6 = .ok (.invokestatic 73, 3) := by decide +kernel
theorem dX9_sheet_9 : decode cX9_sheet 9 = .ok (.ifCond .ne 5, 3) := by decide +kernel
theorem dX9_sheet_12 : decode cX9_sheet 12 = .ok (.iconst (-1), 1) := by decide +kernel
theorem dX9_sheet_13 : decode cX9_sheet 13 = .ok (.ireturn, 1) := by decide +kernel
theorem dX9_sheet_14 : decode cX9_sheet 14 = .ok (.iload_n 2, 1) := by decide +kernel
theorem dX9_sheet_15 : decode cX9_sheet 15 = .ok (.invokestatic 77, 3) := by decide +kernel
theorem dX9_sheet_18 : decode cX9_sheet 18 = .ok (.ifCond .eq 9, 3) := by decide +kernel
theorem dX9_sheet_21 : decode cX9_sheet 21 = .ok (.iload_n 3, 1) := by decide +kernel
theorem dX9_sheet_22 : decode cX9_sheet 22 = .ok (.bipush 60, 2) := by decide +kernel
theorem dX9_sheet_24 : decode cX9_sheet 24 = .ok (.if_icmp .le 6, 3) := by decide +kernel
theorem dX9_sheet_27 : decode cX9_sheet 27 = .ok (.bipush (-2), 2) := by decide +kernel
theorem dX9_sheet_29 : decode cX9_sheet 29 = .ok (.ireturn, 1) := by decide +kernel
theorem dX9_sheet_30 : decode cX9_sheet 30 = .ok (.iload_n 3, 1) := by decide +kernel
theorem dX9_sheet_31 : decode cX9_sheet 31 = .ok (.ifCond .ge 9, 3) := by decide +kernel
theorem dX9_sheet_34 : decode cX9_sheet 34 = .ok (.aload_n 0, 1) := by decide +kernel
theorem dX9_sheet_35 : decode cX9_sheet 35 = .ok (.iconst 4, 1) := by decide +kernel
theorem dX9_sheet_36 : decode cX9_sheet 36 = .ok (.invokevirtual 88, 3) := by decide +kernel
theorem dX9_sheet_39 : decode cX9_sheet 39 = .ok (.ireturn, 1) := by decide +kernel
theorem dX9_sheet_40 : decode cX9_sheet 40 = .ok (.aload_n 0, 1) := by decide +kernel
theorem dX9_sheet_41 : decode cX9_sheet 41 = .ok (.getfield 13, 3) := by decide +kernel
theorem dX9_sheet_44 : decode cX9_sheet 44 = .ok (.iload_n 1, 1) := by decide +kernel
theorem dX9_sheet_45 : decode cX9_sheet 45 = .ok (.aaload, 1) := by decide +kernel
theorem dX9_sheet_46 : decode cX9_sheet 46 = .ok (.iload_n 2, 1) := by decide +kernel
theorem dX9_sheet_47 : decode cX9_sheet 47 = .ok (.iload_n 3, 1) := by decide +kernel
theorem dX9_sheet_48 : decode cX9_sheet 48 = .ok (.invokevirtual 216, 3) := by decide +kernel
theorem dX9_sheet_51 : decode cX9_sheet 51 = .ok (.iconst 1, 1) := by decide +kernel
theorem dX9_sheet_52 : decode cX9_sheet 52 = .ok (.ireturn, 1) := by decide +kernel
set_option maxRecDepth 20000 in
theorem ggX9_lose_X9_isSheet : GoodIn wsX9_lose wsX9_isSheet := goodIn_r _ [6, 7, 8, 5, 9] (by decide +kernel) (by decide +kernel)
set_option maxRecDepth 20000 in
theorem gX9_lose_X9_isSheet : GoodIn wsX9_lose (va_wsS RX9 73 yX9_isSheet wsX9_isSheet) := goodIn_app (goodIn_of _ (by decide +kernel)) ggX9_lose_X9_isSheet
theorem dX9_lose_0 : decode cX9_lose 0 = .ok (.iload_n 1, 1) := by decide +kernel
theorem dX9_lose_1 : decode cX9_lose 1 = .ok (.invokestatic 73, 3) := by decide +kernel
theorem dX9_lose_4 : decode cX9_lose 4 = .ok (.ifCond .ne 5, 3) := by decide +kernel
theorem dX9_lose_7 : decode cX9_lose 7 = .ok (.iconst (-1), 1) := by decide +kernel
theorem dX9_lose_8 : decode cX9_lose 8 = .ok (.ireturn, 1) := by decide +kernel
theorem dX9_lose_9 : decode cX9_lose 9 = .ok (.aload_n 0, 1) := by decide +kernel
theorem dX9_lose_10 : decode cX9_lose 10 = .ok (.getfield 13, 3) := by decide +kernel
theorem dX9_lose_13 : decode cX9_lose 13 = .ok (.iload_n 1, 1) := by decide +kernel
theorem dX9_lose_14 : decode cX9_lose 14 = .ok (.aaload, 1) := by decide +kernel
theorem dX9_lose_15 : decode cX9_lose 15 = .ok (.getfield 220, 3) := by decide +kernel
theorem dX9_lose_18 : decode cX9_lose 18 = .ok (.ifCond .eq 7, 3) := by decide +kernel
theorem dX9_lose_21 : decode cX9_lose 21 = .ok (.iconst 1, 1) := by decide +kernel
theorem dX9_lose_22 : decode cX9_lose 22 = .ok (.goto 4, 3) := by decide +kernel
theorem dX9_lose_25 : decode cX9_lose 25 = .ok (.iconst 0, 1) := by decide +kernel
theorem dX9_lose_26 : decode cX9_lose 26 = .ok (.istore_n 2, 1) := by decide +kernel
theorem dX9_lose_27 : decode cX9_lose 27 = .ok (.aload_n 0, 1) := by decide +kernel
theorem dX9_lose_28 : decode cX9_lose 28 = .ok (.getfield 13, 3) := by decide +kernel
theorem dX9_lose_31 : decode cX9_lose 31 = .ok (.iload_n 1, 1) := by decide +kernel
theorem dX9_lose_32 : decode cX9_lose 32 = .ok (.aaload, 1) := by decide +kernel
theorem dX9_lose_33 : decode cX9_lose 33 = .ok (.iconst 0, 1) := by decide +kernel
theorem dX9_lose_34 : decode cX9_lose 34 = .ok (.putfield 220, 3) := by decide +kernel
theorem dX9_lose_37 : decode cX9_lose 37 = .ok (.iload_n 2, 1) := by decide +kernel
theorem dX9_lose_38 : decode cX9_lose 38 = .ok (.ireturn, 1) := by decide +kernel
set_option maxRecDepth 20000 in
theorem ggX9_put_X9_isSheet : GoodIn wsX9_put wsX9_isSheet := goodIn_r _ [9, 10, 11, 8, 12] (by decide +kernel) (by decide +kernel)
set_option maxRecDepth 20000 in
theorem gX9_put_X9_isSheet : GoodIn wsX9_put (va_wsS RX9 73 yX9_isSheet wsX9_isSheet) := goodIn_app (goodIn_of _ (by decide +kernel)) ggX9_put_X9_isSheet
set_option maxRecDepth 20000 in
theorem ggX9_put_X9_failed : GoodIn wsX9_put wsX9_failed := goodIn_r _ [16, 1, 23, 24, 25, 26, 27, 28, 29, 30, 31, 32, 33] (by decide +kernel) (by decide +kernel)
set_option maxRecDepth 20000 in
theorem gX9_put_X9_failed : GoodIn wsX9_put (wsV RX9 88 RX9 yX9_failed wsX9_failed) := goodIn_app (goodIn_of _ (by decide +kernel)) ggX9_put_X9_failed
set_option maxRecDepth 20000 in
theorem ggX9_put_X9_isBelow : GoodIn wsX9_put wsX9_isBelow := goodIn_r _ [12] (by decide +kernel) (by decide +kernel)
set_option maxRecDepth 20000 in
theorem gX9_put_X9_isBelow : GoodIn wsX9_put (va_wsS RX9 140 yX9_isBelow wsX9_isBelow) := goodIn_app (goodIn_of _ (by decide +kernel)) ggX9_put_X9_isBelow
set_option maxRecDepth 20000 in
theorem ggX9_put_X6_cut : GoodIn wsX9_put wsX6_cut := goodIn_r _ [21, 22, 34, 35, 36, 37] (by decide +kernel) (by decide +kernel)
set_option maxRecDepth 20000 in
theorem gX9_put_X6_cut : GoodIn wsX9_put (wsV RX9 227 RX6 yX6_cut wsX6_cut) := goodIn_app (goodIn_of _ (by decide +kernel)) ggX9_put_X6_cut
theorem dX9_put_0 : decode cX9_put 0 = .ok (.aload_n 0, 1) := by decide +kernel
theorem dX9_put_1 : decode cX9_put 1 = .ok (.iconst 0, 1) := by decide +kernel
theorem dX9_put_2 : decode cX9_put 2 = .ok (.putfield 69, 3) := by decide +kernel
theorem dX9_put_5 : decode cX9_put 5 = .ok (.iload_n 1, 1) := by decide +kernel
theorem dX9_put_6 : decode cX9_put 6 = .ok (.invokestatic 73, 3) := by decide +kernel
theorem dX9_put_9 : decode cX9_put 9 = .ok (.ifCond .ne 5, 3) := by decide +kernel
theorem dX9_put_12 : decode cX9_put 12 = .ok (.iconst (-1), 1) := by decide +kernel
theorem dX9_put_13 : decode cX9_put 13 = .ok (.ireturn, 1) := by decide +kernel
theorem dX9_put_14 : decode cX9_put 14 = .ok (.aload_n 0, 1) := by decide +kernel
theorem dX9_put_15 : decode cX9_put 15 = .ok (.getfield 13, 3) := by decide +kernel
theorem dX9_put_18 : decode cX9_put 18 = .ok (.iload_n 1, 1) := by decide +kernel
theorem dX9_put_19 : decode cX9_put 19 = .ok (.aaload, 1) := by decide +kernel
theorem dX9_put_20 : decode cX9_put 20 = .ok (.astore 4, 2) := by decide +kernel
theorem dX9_put_22 : decode cX9_put 22 = .ok (.aload 4, 2) := by decide +kernel
theorem dX9_put_24 : decode cX9_put 24 = .ok (.getfield 220, 3) := by decide +kernel
theorem dX9_put_27 : decode cX9_put 27 = .ok (.ifCond .ne 9, 3) := by decide +kernel
theorem dX9_put_30 : decode cX9_put 30 = .ok (.aload_n 0, 1) := by decide +kernel
theorem dX9_put_31 : decode cX9_put 31 = .ok (.iconst 1, 1) := by decide +kernel
theorem dX9_put_32 : decode cX9_put 32 = .ok (.invokevirtual 88, 3) := by decide +kernel
theorem dX9_put_35 : decode cX9_put 35 = .ok (.ireturn, 1) := by decide +kernel
theorem dX9_put_36 : decode cX9_put 36 = .ok (.iload_n 2, 1) := by decide +kernel
theorem dX9_put_37 : decode cX9_put 37 = .ok (.aload 4, 2) := by decide +kernel
theorem dX9_put_39 : decode cX9_put 39 = .ok (.getfield 224, 3) := by decide +kernel
theorem dX9_put_42 : decode cX9_put 42 = .ok (.invokestatic 140, 3) := by decide +kernel
theorem dX9_put_45 : decode cX9_put 45 = .ok (.ifCond .ne 9, 3) := by decide +kernel
theorem dX9_put_48 : decode cX9_put 48 = .ok (.aload_n 0, 1) := by decide +kernel
theorem dX9_put_49 : decode cX9_put 49 = .ok (.iconst 3, 1) := by decide +kernel
theorem dX9_put_50 : decode cX9_put 50 = .ok (.invokevirtual 88, 3) := by decide +kernel
theorem dX9_put_53 : decode cX9_put 53 = .ok (.ireturn, 1) := by decide +kernel
theorem dX9_put_54 : decode cX9_put 54 = .ok (.aload 4, 2) := by decide +kernel
theorem dX9_put_56 : decode cX9_put 56 = .ok (.getfield 184, 3) := by decide +kernel
theorem dX9_put_59 : decode cX9_put 59 = .ok (.iload_n 2, 1) := by decide +kernel
theorem dX9_put_60 : decode cX9_put 60 = .ok (.aload 4, 2) := by decide +kernel
theorem dX9_put_62 : decode cX9_put 62 = .ok (.iload_n 3, 1) := by decide +kernel
theorem dX9_put_63 : decode cX9_put 63 = .ok (.invokevirtual 227, 3) := by decide +kernel
theorem dX9_put_66 : decode cX9_put 66 = .ok (.iastore, 1) := by decide +kernel
theorem dX9_put_67 : decode cX9_put 67 = .ok (.iconst 1, 1) := by decide +kernel
theorem dX9_put_68 : decode cX9_put 68 = .ok (.ireturn, 1) := by decide +kernel
set_option maxRecDepth 20000 in
theorem ggX9_cell_X9_isSheet : GoodIn wsX9_cell wsX9_isSheet := goodIn_r _ [9, 10, 11, 8, 12] (by decide +kernel) (by decide +kernel)
set_option maxRecDepth 20000 in
theorem gX9_cell_X9_isSheet : GoodIn wsX9_cell (va_wsS RX9 73 yX9_isSheet wsX9_isSheet) := goodIn_app (goodIn_of _ (by decide +kernel)) ggX9_cell_X9_isSheet
set_option maxRecDepth 20000 in
theorem ggX9_cell_X9_isLane : GoodIn wsX9_cell wsX9_isLane := goodIn_r _ [15] (by decide +kernel) (by decide +kernel)
set_option maxRecDepth 20000 in
theorem gX9_cell_X9_isLane : GoodIn wsX9_cell (va_wsS RX9 77 yX9_isLane wsX9_isLane) := goodIn_app (goodIn_of _ (by decide +kernel)) ggX9_cell_X9_isLane
set_option maxRecDepth 20000 in
theorem ggX9_cell_X6_faultAs : GoodIn wsX9_cell wsX6_faultAs := goodIn_r _ [20, 21, 22, 34, 35, 36, 37] (by decide +kernel) (by decide +kernel)
set_option maxRecDepth 20000 in
theorem gX9_cell_X6_faultAs : GoodIn wsX9_cell (wsV RX9 80 RX6 yX6_faultAs wsX6_faultAs) := goodIn_app (goodIn_of _ (by decide +kernel)) ggX9_cell_X6_faultAs
set_option maxRecDepth 20000 in
theorem ggX9_cell_X9_isBelow : GoodIn wsX9_cell wsX9_isBelow := goodIn_r _ [12] (by decide +kernel) (by decide +kernel)
set_option maxRecDepth 20000 in
theorem gX9_cell_X9_isBelow : GoodIn wsX9_cell (va_wsS RX9 140 yX9_isBelow wsX9_isBelow) := goodIn_app (goodIn_of _ (by decide +kernel)) ggX9_cell_X9_isBelow
theorem dX9_cell_0 : decode cX9_cell 0 = .ok (.aload_n 0, 1) := by decide +kernel
theorem dX9_cell_1 : decode cX9_cell 1 = .ok (.iconst 0, 1) := by decide +kernel
theorem dX9_cell_2 : decode cX9_cell 2 = .ok (.putfield 69, 3) := by decide +kernel
theorem dX9_cell_5 : decode cX9_cell 5 = .ok (.iload_n 1, 1) := by decide +kernel
theorem dX9_cell_6 : decode cX9_cell 6 = .ok (.invokestatic 73, 3) := by decide +kernel
theorem dX9_cell_9 : decode cX9_cell 9 = .ok (.ifCond .eq 10, 3) := by decide +kernel
theorem dX9_cell_12 : decode cX9_cell 12 = .ok (.iload_n 3, 1) := by decide +kernel
theorem dX9_cell_13 : decode cX9_cell 13 = .ok (.invokestatic 77, 3) := by decide +kernel
theorem dX9_cell_16 : decode cX9_cell 16 = .ok (.ifCond .ne 7, 3) := by decide +kernel
theorem dX9_cell_19 : decode cX9_cell 19 = .ok (.ldc2_w 208, 3) := by decide +kernel
theorem dX9_cell_22 : decode cX9_cell 22 = .ok (.lreturn, 1) := by decide +kernel
theorem dX9_cell_23 : decode cX9_cell 23 = .ok (.aload_n 0, 1) := by decide +kernel
theorem dX9_cell_24 : decode cX9_cell 24 = .ok (.getfield 13, 3) := by decide +kernel
theorem dX9_cell_27 : decode cX9_cell 27 = .ok (.iload_n 1, 1) := by decide +kernel
theorem dX9_cell_28 : decode cX9_cell 28 = .ok (.aaload, 1) := by decide +kernel
theorem dX9_cell_29 : decode cX9_cell 29 = .ok (.astore 4, 2) := by decide +kernel
theorem dX9_cell_31 : decode cX9_cell 31 = .ok (.aload_n 0, 1) := by decide +kernel
theorem dX9_cell_32 : decode cX9_cell 32 = .ok (.aload 4, 2) := by decide +kernel
theorem dX9_cell_34 : decode cX9_cell 34 = .ok (.iload_n 3, 1) := by decide +kernel
theorem dX9_cell_35 : decode cX9_cell 35 = .ok (.invokevirtual 80, 3) := by decide +kernel
theorem dX9_cell_38 : decode cX9_cell 38 = .ok (.putfield 69, 3) := by decide +kernel
theorem dX9_cell_41 : decode cX9_cell 41 = .ok (.aload_n 0, 1) := by decide +kernel
theorem dX9_cell_42 : decode cX9_cell 42 = .ok (.getfield 69, 3) := by decide +kernel
theorem dX9_cell_45 : decode cX9_cell 45 = .ok (.ifCond .ne 20, 3) := by decide +kernel
theorem dX9_cell_48 : decode cX9_cell 48 = .ok (.iload_n 2, 1) := by decide +kernel
theorem dX9_cell_49 : decode cX9_cell 49 = .ok (.aload 4, 2) := by decide +kernel
theorem dX9_cell_51 : decode cX9_cell 51 = .ok (.getfield 224, 3) := by decide +kernel
theorem dX9_cell_54 : decode cX9_cell 54 = .ok (.invokestatic 140, 3) := by decide +kernel
theorem dX9_cell_57 : decode cX9_cell 57 = .ok (.ifCond .ne 8, 3) := by decide +kernel
theorem dX9_cell_60 : decode cX9_cell 60 = .ok (.aload_n 0, 1) := by decide +kernel
theorem dX9_cell_61 : decode cX9_cell 61 = .ok (.iconst 3, 1) := by decide +kernel
theorem dX9_cell_62 : decode cX9_cell 62 = .ok (.putfield 69, 3) := by decide +kernel
theorem dX9_cell_65 : decode cX9_cell 65 = .ok (.aload_n 0, 1) := by decide +kernel
theorem dX9_cell_66 : decode cX9_cell 66 = .ok (.getfield 69, 3) := by decide +kernel
theorem dX9_cell_69 : decode cX9_cell 69 = .ok (.ifCond .ne 14, 3) := by decide +kernel
theorem dX9_cell_72 : decode cX9_cell 72 = .ok (.aload 4, 2) := by decide +kernel
theorem dX9_cell_74 : decode cX9_cell 74 = .ok (.getfield 184, 3) := by decide +kernel
theorem dX9_cell_77 : decode cX9_cell 77 = .ok (.iload_n 2, 1) := by decide +kernel
theorem dX9_cell_78 : decode cX9_cell 78 = .ok (.iaload, 1) := by decide +kernel
theorem dX9_cell_79 : decode cX9_cell 79 = .ok (.i2l, 1) := by decide +kernel
theorem dX9_cell_80 : decode cX9_cell 80 = .ok (.goto 6, 3) := by decide +kernel
theorem dX9_cell_83 : decode cX9_cell 83 = .ok (.ldc2_w 208, 3) := by decide +kernel
theorem dX9_cell_86 : decode cX9_cell 86 = .ok (.lreturn, 1) := by decide +kernel
set_option maxRecDepth 20000 in
theorem ggX9_copy_X9_isSheet : GoodIn wsX9_copy wsX9_isSheet := goodIn_r _ [13, 14, 15, 12, 16] (by decide +kernel) (by decide +kernel)
set_option maxRecDepth 20000 in
theorem gX9_copy_X9_isSheet : GoodIn wsX9_copy (va_wsS RX9 73 yX9_isSheet wsX9_isSheet) := goodIn_app (goodIn_of _ (by decide +kernel)) ggX9_copy_X9_isSheet
set_option maxRecDepth 20000 in
theorem ggX9_copy_X9_failed : GoodIn wsX9_copy wsX9_failed := goodIn_r _ [20, 1, 27, 28, 29, 30, 31, 32, 33, 34, 35, 36, 37] (by decide +kernel) (by decide +kernel)
set_option maxRecDepth 20000 in
theorem gX9_copy_X9_failed : GoodIn wsX9_copy (wsV RX9 88 RX9 yX9_failed wsX9_failed) := goodIn_app (goodIn_of _ (by decide +kernel)) ggX9_copy_X9_failed
set_option maxRecDepth 20000 in
theorem ggX9_copy_X6_holds : GoodIn wsX9_copy wsX6_holds := goodIn_r _ [25, 26, 38, 39, 40, 41] (by decide +kernel) (by decide +kernel)
set_option maxRecDepth 20000 in
theorem gX9_copy_X6_holds : GoodIn wsX9_copy (wsV RX9 84 RX6 yX6_holds wsX6_holds) := goodIn_app (goodIn_of _ (by decide +kernel)) ggX9_copy_X6_holds
theorem dX9_copy_0 : decode cX9_copy 0 = .ok (.aload_n 0, 1) := by decide +kernel
theorem dX9_copy_1 : decode cX9_copy 1 = .ok (.iconst 0, 1) := by decide +kernel
theorem dX9_copy_2 : decode cX9_copy 2 = .ok (.putfield 69, 3) := by decide +kernel
theorem dX9_copy_5 : decode cX9_copy 5 = .ok (.iload_n 1, 1) := by decide +kernel
theorem dX9_copy_6 : decode cX9_copy 6 = .ok (.invokestatic 73, 3) := by decide +kernel
theorem dX9_copy_9 : decode cX9_copy 9 = .ok (.ifCond .eq 10, 3) := by decide +kernel
theorem dX9_copy_12 : decode cX9_copy 12 = .ok (.iload_n 3, 1) := by decide +kernel
theorem dX9_copy_13 : decode cX9_copy 13 = .ok (.invokestatic 73, 3) := by decide +kernel
theorem dX9_copy_16 : decode cX9_copy 16 = .ok (.ifCond .ne 5, 3) := by decide +kernel
theorem dX9_copy_19 : decode cX9_copy 19 = .ok (.iconst (-1), 1) := by decide +kernel
theorem dX9_copy_20 : decode cX9_copy 20 = .ok (.ireturn, 1) := by decide +kernel
theorem dX9_copy_21 : decode cX9_copy 21 = .ok (.aload_n 0, 1) := by decide +kernel
theorem dX9_copy_22 : decode cX9_copy 22 = .ok (.getfield 13, 3) := by decide +kernel
theorem dX9_copy_25 : decode cX9_copy 25 = .ok (.iload_n 1, 1) := by decide +kernel
theorem dX9_copy_26 : decode cX9_copy 26 = .ok (.aaload, 1) := by decide +kernel
theorem dX9_copy_27 : decode cX9_copy 27 = .ok (.astore 6, 2) := by decide +kernel
theorem dX9_copy_29 : decode cX9_copy 29 = .ok (.aload_n 0, 1) := by decide +kernel
theorem dX9_copy_30 : decode cX9_copy 30 = .ok (.getfield 13, 3) := by decide +kernel
theorem dX9_copy_33 : decode cX9_copy 33 = .ok (.iload_n 3, 1) := by decide +kernel
theorem dX9_copy_34 : decode cX9_copy 34 = .ok (.aaload, 1) := by decide +kernel
theorem dX9_copy_35 : decode cX9_copy 35 = .ok (.astore 7, 2) := by decide +kernel
theorem dX9_copy_37 : decode cX9_copy 37 = .ok (.aload 6, 2) := by decide +kernel
theorem dX9_copy_39 : decode cX9_copy 39 = .ok (.getfield 220, 3) := by decide +kernel
theorem dX9_copy_42 : decode cX9_copy 42 = .ok (.ifCond .eq 11, 3) := by decide +kernel
theorem dX9_copy_45 : decode cX9_copy 45 = .ok (.aload 7, 2) := by decide +kernel
theorem dX9_copy_47 : decode cX9_copy 47 = .ok (.getfield 220, 3) := by decide +kernel
theorem dX9_copy_50 : decode cX9_copy 50 = .ok (.ifCond .ne 9, 3) := by decide +kernel
theorem dX9_copy_53 : decode cX9_copy 53 = .ok (.aload_n 0, 1) := by decide +kernel
theorem dX9_copy_54 : decode cX9_copy 54 = .ok (.iconst 1, 1) := by decide +kernel
theorem dX9_copy_55 : decode cX9_copy 55 = .ok (.invokevirtual 88, 3) := by decide +kernel
theorem dX9_copy_58 : decode cX9_copy 58 = .ok (.ireturn, 1) := by decide +kernel
theorem dX9_copy_59 : decode cX9_copy 59 = .ok (.aload 6, 2) := by decide +kernel
theorem dX9_copy_61 : decode cX9_copy 61 = .ok (.getfield 230, 3) := by decide +kernel
theorem dX9_copy_64 : decode cX9_copy 64 = .ok (.aload 7, 2) := by decide +kernel
theorem dX9_copy_66 : decode cX9_copy 66 = .ok (.getfield 230, 3) := by decide +kernel
theorem dX9_copy_69 : decode cX9_copy 69 = .ok (.if_icmp .eq 9, 3) := by decide +kernel
theorem dX9_copy_72 : decode cX9_copy 72 = .ok (.aload_n 0, 1) := by decide +kernel
theorem dX9_copy_73 : decode cX9_copy 73 = .ok (.iconst 2, 1) := by decide +kernel
theorem dX9_copy_74 : decode cX9_copy 74 = .ok (.invokevirtual 88, 3) := by decide +kernel
theorem dX9_copy_77 : decode cX9_copy 77 = .ok (.ireturn, 1) := by decide +kernel
theorem dX9_copy_78 : decode cX9_copy 78 = .ok (.aload 6, 2) := by decide +kernel
theorem dX9_copy_80 : decode cX9_copy 80 = .ok (.iload_n 2, 1) := by decide +kernel
theorem dX9_copy_81 : decode cX9_copy 81 = .ok (.iload 5, 2) := by decide +kernel
theorem dX9_copy_83 : decode cX9_copy 83 = .ok (.invokevirtual 84, 3) := by decide +kernel
theorem dX9_copy_86 : decode cX9_copy 86 = .ok (.ifCond .eq 15, 3) := by decide +kernel
theorem dX9_copy_89 : decode cX9_copy 89 = .ok (.aload 7, 2) := by decide +kernel
theorem dX9_copy_91 : decode cX9_copy 91 = .ok (.iload 4, 2) := by decide +kernel
theorem dX9_copy_93 : decode cX9_copy 93 = .ok (.iload 5, 2) := by decide +kernel
theorem dX9_copy_95 : decode cX9_copy 95 = .ok (.invokevirtual 84, 3) := by decide +kernel
theorem dX9_copy_98 : decode cX9_copy 98 = .ok (.ifCond .ne 9, 3) := by decide +kernel
theorem dX9_copy_101 : decode cX9_copy 101 = .ok (.aload_n 0, 1) := by decide +kernel
theorem dX9_copy_102 : decode cX9_copy 102 = .ok (.iconst 3, 1) := by decide +kernel
theorem dX9_copy_103 : decode cX9_copy 103 = .ok (.invokevirtual 88, 3) := by decide +kernel
theorem dX9_copy_106 : decode cX9_copy 106 = .ok (.ireturn, 1) := by decide +kernel
theorem dX9_copy_107 : decode cX9_copy 107 = .ok (.aload 6, 2) := by decide +kernel
theorem dX9_copy_109 : decode cX9_copy 109 = .ok (.getfield 184, 3) := by decide +kernel
theorem dX9_copy_112 : decode cX9_copy 112 = .ok (.iload_n 2, 1) := by decide +kernel
theorem dX9_copy_113 : decode cX9_copy 113 = .ok (.aload 7, 2) := by decide +kernel
theorem dX9_copy_115 : decode cX9_copy 115 = .ok (.getfield 184, 3) := by decide +kernel
theorem dX9_copy_118 : decode cX9_copy 118 = .ok (.iload 4, 2) := by decide +kernel
theorem dX9_copy_120 : decode cX9_copy 120 = .ok (.iload 5, 2) := by decide +kernel
theorem dX9_copy_122 : decode cX9_copy 122 = .ok (.invokestatic 233, 3) := by decide +kernel
theorem dX9_copy_125 : decode cX9_copy 125 = .ok (.iload 5, 2) := by decide +kernel
theorem dX9_copy_127 : decode cX9_copy 127 = .ok (.ireturn, 1) := by decide +kernel
set_option maxRecDepth 20000 in
theorem ggX9_tell_X4_hasPerson : GoodIn wsX9_tell wsX4_hasPerson := goodIn_r _ [8, 9, 10, 11, 12, 48, 49, 50] (by decide +kernel) (by decide +kernel)
set_option maxRecDepth 20000 in
theorem gX9_tell_X4_hasPerson : GoodIn wsX9_tell (wsV RX9 105 RX4 yX4_hasPerson wsX4_hasPerson) := goodIn_app (goodIn_of _ (by decide +kernel)) ggX9_tell_X4_hasPerson
set_option maxRecDepth 20000 in
theorem ggX9_tell_X0_telling : GoodIn wsX9_tell wsX0_telling := goodIn_r _ [17, 18, 19, 20, 21, 16, 22, 23, 24, 25, 26, 27, 28, 29, 30, 31, 32, 33, 34, 35, 36, 51, 52, 53, 54, 55] (by decide +kernel) (by decide +kernel)
set_option maxRecDepth 20000 in
theorem gX9_tell_X0_telling : GoodIn wsX9_tell (wsV RX9 239 RX0 yX0_telling wsX0_telling) := goodIn_app (goodIn_of _ (by decide +kernel)) ggX9_tell_X0_telling
theorem dX9_tell_0 : decode cX9_tell 0 = .ok (.aload_n 0, 1) := by decide +kernel
theorem dX9_tell_1 : decode cX9_tell 1 = .ok (.getfield 20, 3) := by decide +kernel
theorem dX9_tell_4 : decode cX9_tell 4 = .ok (.iload_n 1, 1) := by decide +kernel
theorem dX9_tell_5 : decode cX9_tell 5 = .ok (.invokevirtual 105, 3) := by decide +kernel
theorem dX9_tell_8 : decode cX9_tell 8 = .ok (.ifCond .eq 22, 3) := by decide +kernel
theorem dX9_tell_11 : decode cX9_tell 11 = .ok (.aload_n 0, 1) := by decide +kernel
theorem dX9_tell_12 : decode cX9_tell 12 = .ok (.getfield 58, 3) := by decide +kernel
theorem dX9_tell_15 : decode cX9_tell 15 = .ok (.aload_n 0, 1) := by decide +kernel
theorem dX9_tell_16 : decode cX9_tell 16 = .ok (.getfield 20, 3) := by decide +kernel
theorem dX9_tell_19 : decode cX9_tell 19 = .ok (.getfield 108, 3) := by decide +kernel
theorem dX9_tell_22 : decode cX9_tell 22 = .ok (.iload_n 1, 1) := by decide +kernel
theorem dX9_tell_23 : decode cX9_tell 23 = .ok (.aaload, 1) := by decide +kernel
theorem dX9_tell_24 : decode cX9_tell 24 = .ok (.invokevirtual 239, 3) := by decide +kernel
theorem dX9_tell_27 : decode cX9_tell 27 = .ok (.goto 4, 3) := by decide +kernel
theorem dX9_tell_30 : decode cX9_tell 30 = .ok (.iconst (-1), 1) := by decide +kernel
theorem dX9_tell_31 : decode cX9_tell 31 = .ok (.ireturn, 1) := by decide +kernel
set_option maxRecDepth 20000 in
theorem ggX9_greet_X4_hasPerson : GoodIn wsX9_greet wsX4_hasPerson := goodIn_r _ [8, 9, 10, 11, 12, 36, 37, 38] (by decide +kernel) (by decide +kernel)
set_option maxRecDepth 20000 in
theorem gX9_greet_X4_hasPerson : GoodIn wsX9_greet (wsV RX9 105 RX4 yX4_hasPerson wsX4_hasPerson) := goodIn_app (goodIn_of _ (by decide +kernel)) ggX9_greet_X4_hasPerson
set_option maxRecDepth 20000 in
theorem ggX9_greet_X0_greeting : GoodIn wsX9_greet wsX0_greeting := goodIn_r _ [17, 18, 19, 20, 21, 22, 16, 23, 24, 39, 40, 41, 42, 43] (by decide +kernel) (by decide +kernel)
set_option maxRecDepth 20000 in
theorem gX9_greet_X0_greeting : GoodIn wsX9_greet (wsV RX9 243 RX0 yX0_greeting wsX0_greeting) := goodIn_app (goodIn_of _ (by decide +kernel)) ggX9_greet_X0_greeting
theorem dX9_greet_0 : decode cX9_greet 0 = .ok (.aload_n 0, 1) := by decide +kernel
theorem dX9_greet_1 : decode cX9_greet 1 = .ok (.getfield 20, 3) := by decide +kernel
theorem dX9_greet_4 : decode cX9_greet 4 = .ok (.iload_n 1, 1) := by decide +kernel
theorem dX9_greet_5 : decode cX9_greet 5 = .ok (.invokevirtual 105, 3) := by decide +kernel
theorem dX9_greet_8 : decode cX9_greet 8 = .ok (.ifCond .eq 22, 3) := by decide +kernel
theorem dX9_greet_11 : decode cX9_greet 11 = .ok (.aload_n 0, 1) := by decide +kernel
theorem dX9_greet_12 : decode cX9_greet 12 = .ok (.getfield 58, 3) := by decide +kernel
theorem dX9_greet_15 : decode cX9_greet 15 = .ok (.aload_n 0, 1) := by decide +kernel
theorem dX9_greet_16 : decode cX9_greet 16 = .ok (.getfield 20, 3) := by decide +kernel
theorem dX9_greet_19 : decode cX9_greet 19 = .ok (.getfield 108, 3) := by decide +kernel
theorem dX9_greet_22 : decode cX9_greet 22 = .ok (.iload_n 1, 1) := by decide +kernel
theorem dX9_greet_23 : decode cX9_greet 23 = .ok (.aaload, 1) := by decide +kernel
theorem dX9_greet_24 : decode cX9_greet 24 = .ok (.invokevirtual 243, 3) := by decide +kernel
theorem dX9_greet_27 : decode cX9_greet 27 = .ok (.goto 4, 3) := by decide +kernel
theorem dX9_greet_30 : decode cX9_greet 30 = .ok (.iconst (-1), 1) := by decide +kernel
theorem dX9_greet_31 : decode cX9_greet 31 = .ok (.ireturn, 1) := by decide +kernel
set_option maxRecDepth 20000 in
theorem ggX9_as_X4_hasPerson : GoodIn wsX9_as wsX4_hasPerson := goodIn_r _ [9, 10, 11, 12, 13, 30, 31, 32] (by decide +kernel) (by decide +kernel)
set_option maxRecDepth 20000 in
theorem gX9_as_X4_hasPerson : GoodIn wsX9_as (wsV RX9 105 RX4 yX4_hasPerson wsX4_hasPerson) := goodIn_app (goodIn_of _ (by decide +kernel)) ggX9_as_X4_hasPerson
set_option maxRecDepth 20000 in
theorem ggX9_as_X9_isBelow : GoodIn wsX9_as wsX9_isBelow := goodIn_r _ [13] (by decide +kernel) (by decide +kernel)
set_option maxRecDepth 20000 in
theorem gX9_as_X9_isBelow : GoodIn wsX9_as (va_wsS RX9 140 yX9_isBelow wsX9_isBelow) := goodIn_app (goodIn_of _ (by decide +kernel)) ggX9_as_X9_isBelow
set_option maxRecDepth 20000 in
theorem ggX9_as_X9_failed : GoodIn wsX9_as wsX9_failed := goodIn_r _ [18, 1, 19, 20, 21, 22, 23, 24, 25, 26, 27, 28, 29] (by decide +kernel) (by decide +kernel)
set_option maxRecDepth 20000 in
theorem gX9_as_X9_failed : GoodIn wsX9_as (wsV RX9 88 RX9 yX9_failed wsX9_failed) := goodIn_app (goodIn_of _ (by decide +kernel)) ggX9_as_X9_failed
theorem dX9_as_0 : decode cX9_as 0 = .ok (.aload_n 0, 1) := by decide +kernel
theorem dX9_as_1 : decode cX9_as 1 = .ok (.iconst 0, 1) := by decide +kernel
theorem dX9_as_2 : decode cX9_as 2 = .ok (.putfield 69, 3) := by decide +kernel
theorem dX9_as_5 : decode cX9_as 5 = .ok (.aload_n 0, 1) := by decide +kernel
theorem dX9_as_6 : decode cX9_as 6 = .ok (.getfield 20, 3) := by decide +kernel
theorem dX9_as_9 : decode cX9_as 9 = .ok (.iload_n 1, 1) := by decide +kernel
theorem dX9_as_10 : decode cX9_as 10 = .ok (.invokevirtual 105, 3) := by decide +kernel
theorem dX9_as_13 : decode cX9_as 13 = .ok (.ifCond .ne 5, 3) := by decide +kernel
theorem dX9_as_16 : decode cX9_as 16 = .ok (.iconst (-1), 1) := by decide +kernel
theorem dX9_as_17 : decode cX9_as 17 = .ok (.ireturn, 1) := by decide +kernel
theorem dX9_as_18 : decode cX9_as 18 = .ok (.iload_n 2, 1) := by decide +kernel
theorem dX9_as_19 : decode cX9_as 19 = .ok (.iconst 3, 1) := by decide +kernel
theorem dX9_as_20 : decode cX9_as 20 = .ok (.invokestatic 140, 3) := by decide +kernel
theorem dX9_as_23 : decode cX9_as 23 = .ok (.ifCond .ne 6, 3) := by decide +kernel
theorem dX9_as_26 : decode cX9_as 26 = .ok (.bipush (-2), 2) := by decide +kernel
theorem dX9_as_28 : decode cX9_as 28 = .ok (.ireturn, 1) := by decide +kernel
theorem dX9_as_29 : decode cX9_as 29 = .ok (.aload_n 0, 1) := by decide +kernel
theorem dX9_as_30 : decode cX9_as 30 = .ok (.getfield 20, 3) := by decide +kernel
theorem dX9_as_33 : decode cX9_as 33 = .ok (.getfield 108, 3) := by decide +kernel
theorem dX9_as_36 : decode cX9_as 36 = .ok (.iload_n 1, 1) := by decide +kernel
theorem dX9_as_37 : decode cX9_as 37 = .ok (.aaload, 1) := by decide +kernel
theorem dX9_as_38 : decode cX9_as 38 = .ok (.getfield 112, 3) := by decide +kernel
theorem dX9_as_41 : decode cX9_as 41 = .ok (.iload_n 2, 1) := by decide +kernel
theorem dX9_as_42 : decode cX9_as 42 = .ok (.if_icmp .lt 7, 3) := by decide +kernel
theorem dX9_as_45 : decode cX9_as 45 = .ok (.iconst 1, 1) := by decide +kernel
theorem dX9_as_46 : decode cX9_as 46 = .ok (.goto 8, 3) := by decide +kernel
theorem dX9_as_49 : decode cX9_as 49 = .ok (.aload_n 0, 1) := by decide +kernel
theorem dX9_as_50 : decode cX9_as 50 = .ok (.iconst 2, 1) := by decide +kernel
theorem dX9_as_51 : decode cX9_as 51 = .ok (.invokevirtual 88, 3) := by decide +kernel
theorem dX9_as_54 : decode cX9_as 54 = .ok (.ireturn, 1) := by decide +kernel
theorem dX9_trace_0 : decode cX9_trace 0 = .ok (.aload_n 0, 1) := by decide +kernel
theorem dX9_trace_1 : decode cX9_trace 1 = .ok (.getfield 58, 3) := by decide +kernel
theorem dX9_trace_4 : decode cX9_trace 4 = .ok (.getfield 246, 3) := by decide +kernel
theorem dX9_trace_7 : decode cX9_trace 7 = .ok (.ireturn, 1) := by decide +kernel
theorem dX9_fault_0 : decode cX9_fault 0 = .ok (.aload_n 0, 1) := by decide +kernel
theorem dX9_fault_1 : decode cX9_fault 1 = .ok (.getfield 69, 3) := by decide +kernel
theorem dX9_fault_4 : decode cX9_fault 4 = .ok (.ireturn, 1) := by decide +kernel
theorem dX9_many_0 : decode cX9_many 0 = .ok (.iload_n 1, 1) := by decide +kernel
theorem dX9_many_1 : decode cX9_many 1 = .ok (.tableswitch 57 0 3 #[31, 39, 44, 49], 31) := by decide +kernel
theorem dX9_many_32 : decode cX9_many 32 = .ok (.aload_n 0, 1) := by decide +kernel
theorem dX9_many_33 : decode cX9_many 33 = .ok (.getfield 20, 3) := by decide +kernel
theorem dX9_many_36 : decode cX9_many 36 = .ok (.getfield 104, 3) := by decide +kernel
theorem dX9_many_39 : decode cX9_many 39 = .ok (.ireturn, 1) := by decide +kernel
theorem dX9_many_40 : decode cX9_many 40 = .ok (.aload_n 0, 1) := by decide +kernel
theorem dX9_many_41 : decode cX9_many 41 = .ok (.getfield 62, 3) := by decide +kernel
theorem dX9_many_44 : decode cX9_many 44 = .ok (.ireturn, 1) := by decide +kernel
theorem dX9_many_45 : decode cX9_many 45 = .ok (.aload_n 0, 1) := by decide +kernel
theorem dX9_many_46 : decode cX9_many 46 = .ok (.getfield 66, 3) := by decide +kernel
theorem dX9_many_49 : decode cX9_many 49 = .ok (.ireturn, 1) := by decide +kernel
theorem dX9_many_50 : decode cX9_many 50 = .ok (.aload_n 0, 1) := by decide +kernel
theorem dX9_many_51 : decode cX9_many 51 = .ok (.getfield 51, 3) := by decide +kernel
theorem dX9_many_54 : decode cX9_many 54 = .ok (.getfield 101, 3) := by decide +kernel
theorem dX9_many_57 : decode cX9_many 57 = .ok (.ireturn, 1) := by decide +kernel
theorem dX9_many_58 : decode cX9_many 58 = .ok (.bipush (-2), 2) := by decide +kernel
theorem dX9_many_60 : decode cX9_many 60 = .ok (.ireturn, 1) := by decide +kernel
theorem dX9_isBelow_0 : decode cX9_isBelow 0 = .ok (.iload_n 0, 1) := by decide +kernel
theorem dX9_isBelow_1 : decode cX9_isBelow 1 = .ok (.ifCond .lt 12, 3) := by decide +kernel
theorem dX9_isBelow_4 : decode cX9_isBelow 4 = .ok (.iload_n 0, 1) := by decide +kernel
theorem dX9_isBelow_5 : decode cX9_isBelow 5 = .ok (.iload_n 1, 1) := by decide +kernel
theorem dX9_isBelow_6 : decode cX9_isBelow 6 = .ok (.if_icmp .ge 7, 3) := by decide +kernel
theorem dX9_isBelow_9 : decode cX9_isBelow 9 = .ok (.iconst 1, 1) := by decide +kernel
theorem dX9_isBelow_10 : decode cX9_isBelow 10 = .ok (.goto 4, 3) := by decide +kernel
theorem dX9_isBelow_13 : decode cX9_isBelow 13 = .ok (.iconst 0, 1) := by decide +kernel
theorem dX9_isBelow_14 : decode cX9_isBelow 14 = .ok (.ireturn, 1) := by decide +kernel
set_option maxRecDepth 20000 in
theorem ggX9_isSheet_X9_isBelow : GoodIn wsX9_isSheet wsX9_isBelow := goodIn_r _ [4] (by decide +kernel) (by decide +kernel)
set_option maxRecDepth 20000 in
theorem gX9_isSheet_X9_isBelow : GoodIn wsX9_isSheet (va_wsS RX9 140 yX9_isBelow wsX9_isBelow) := goodIn_app (goodIn_of _ (by decide +kernel)) ggX9_isSheet_X9_isBelow
theorem dX9_isSheet_0 : decode cX9_isSheet 0 = .ok (.iload_n 0, 1) := by decide +kernel
theorem dX9_isSheet_1 : decode cX9_isSheet 1 = .ok (.iconst 4, 1) := by decide +kernel
theorem dX9_isSheet_2 : decode cX9_isSheet 2 = .ok (.invokestatic 140, 3) := by decide +kernel
theorem dX9_isSheet_5 : decode cX9_isSheet 5 = .ok (.ireturn, 1) := by decide +kernel
theorem dX9_isLane_0 : decode cX9_isLane 0 = .ok (.iload_n 0, 1) := by decide +kernel
theorem dX9_isLane_1 : decode cX9_isLane 1 = .ok (.ifCond .eq 13, 3) := by decide +kernel
theorem dX9_isLane_4 : decode cX9_isLane 4 = .ok (.iload_n 0, 1) := by decide +kernel
theorem dX9_isLane_5 : decode cX9_isLane 5 = .ok (.iconst 1, 1) := by decide +kernel
theorem dX9_isLane_6 : decode cX9_isLane 6 = .ok (.if_icmp .eq 8, 3) := by decide +kernel
theorem dX9_isLane_9 : decode cX9_isLane 9 = .ok (.iload_n 0, 1) := by decide +kernel
theorem dX9_isLane_10 : decode cX9_isLane 10 = .ok (.iconst 2, 1) := by decide +kernel
theorem dX9_isLane_11 : decode cX9_isLane 11 = .ok (.if_icmp .ne 7, 3) := by decide +kernel
theorem dX9_isLane_14 : decode cX9_isLane 14 = .ok (.iconst 1, 1) := by decide +kernel
theorem dX9_isLane_15 : decode cX9_isLane 15 = .ok (.goto 4, 3) := by decide +kernel
theorem dX9_isLane_18 : decode cX9_isLane 18 = .ok (.iconst 0, 1) := by decide +kernel
theorem dX9_isLane_19 : decode cX9_isLane 19 = .ok (.ireturn, 1) := by decide +kernel
theorem dX9_failed_0 : decode cX9_failed 0 = .ok (.aload_n 0, 1) := by decide +kernel
theorem dX9_failed_1 : decode cX9_failed 1 = .ok (.iload_n 1, 1) := by decide +kernel
theorem dX9_failed_2 : decode cX9_failed 2 = .ok (.putfield 69, 3) := by decide +kernel
theorem dX9_failed_5 : decode cX9_failed 5 = .ok (.bipush (-10), 2) := by decide +kernel
theorem dX9_failed_7 : decode cX9_failed 7 = .ok (.iload_n 1, 1) := by decide +kernel
theorem dX9_failed_8 : decode cX9_failed 8 = .ok (.isub, 1) := by decide +kernel
theorem dX9_failed_9 : decode cX9_failed 9 = .ok (.ireturn, 1) := by decide +kernel
set_option maxRecDepth 20000 in
theorem ggX9_rowFault_X6_faultAs : GoodIn wsX9_rowFault wsX6_faultAs := goodIn_r _ [5, 6, 7, 13, 14, 15, 16] (by decide +kernel) (by decide +kernel)
set_option maxRecDepth 20000 in
theorem gX9_rowFault_X6_faultAs : GoodIn wsX9_rowFault (wsV RX9 80 RX6 yX6_faultAs wsX6_faultAs) := goodIn_app (goodIn_of _ (by decide +kernel)) ggX9_rowFault_X6_faultAs
set_option maxRecDepth 20000 in
theorem ggX9_rowFault_X6_holds : GoodIn wsX9_rowFault wsX6_holds := goodIn_r _ [11, 12, 13, 14, 15, 16] (by decide +kernel) (by decide +kernel)
set_option maxRecDepth 20000 in
theorem gX9_rowFault_X6_holds : GoodIn wsX9_rowFault (wsV RX9 84 RX6 yX6_holds wsX6_holds) := goodIn_app (goodIn_of _ (by decide +kernel)) ggX9_rowFault_X6_holds
theorem dX9_rowFault_0 : decode cX9_rowFault 0 = .ok (.aload_n 0, 1) := by decide +kernel
theorem dX9_rowFault_1 : decode cX9_rowFault 1 = .ok (.iload_n 1, 1) := by decide +kernel
theorem dX9_rowFault_2 : decode cX9_rowFault 2 = .ok (.invokevirtual 80, 3) := by decide +kernel
theorem dX9_rowFault_5 : decode cX9_rowFault 5 = .ok (.istore 4, 2) := by decide +kernel
theorem dX9_rowFault_7 : decode cX9_rowFault 7 = .ok (.iload 4, 2) := by decide +kernel
theorem dX9_rowFault_9 : decode cX9_rowFault 9 = .ok (.ifCond .ne 16, 3) := by decide +kernel
theorem dX9_rowFault_12 : decode cX9_rowFault 12 = .ok (.aload_n 0, 1) := by decide +kernel
theorem dX9_rowFault_13 : decode cX9_rowFault 13 = .ok (.iload_n 2, 1) := by decide +kernel
theorem dX9_rowFault_14 : decode cX9_rowFault 14 = .ok (.iload_n 3, 1) := by decide +kernel
theorem dX9_rowFault_15 : decode cX9_rowFault 15 = .ok (.invokevirtual 84, 3) := by decide +kernel
theorem dX9_rowFault_18 : decode cX9_rowFault 18 = .ok (.ifCond .ne 7, 3) := by decide +kernel
theorem dX9_rowFault_21 : decode cX9_rowFault 21 = .ok (.iconst 3, 1) := by decide +kernel
theorem dX9_rowFault_22 : decode cX9_rowFault 22 = .ok (.goto 5, 3) := by decide +kernel
theorem dX9_rowFault_25 : decode cX9_rowFault 25 = .ok (.iload 4, 2) := by decide +kernel
theorem dX9_rowFault_27 : decode cX9_rowFault 27 = .ok (.ireturn, 1) := by decide +kernel
set_option maxRecDepth 20000 in
theorem ggX9_possible_X4_becomeLike : GoodIn wsX9_possible wsX4_becomeLike := goodIn_r _ [8, 9, 10, 11, 12, 13, 14, 15, 16, 17, 18, 19, 20, 21, 22, 23, 24, 64, 65, 66, 67, 68, 69, 70] (by decide +kernel) (by decide +kernel)
set_option maxRecDepth 20000 in
theorem gX9_possible_X4_becomeLike : GoodIn wsX9_possible (wsV RX9 161 RX4 yX4_becomeLike wsX4_becomeLike) := goodIn_app (goodIn_of _ (by decide +kernel)) ggX9_possible_X4_becomeLike
set_option maxRecDepth 20000 in
theorem ggX9_possible_X4_suppose : GoodIn wsX9_possible wsX4_suppose := goodIn_r _ [28, 15, 29, 30, 31, 10, 64, 65, 66, 67, 68, 69, 70] (by decide +kernel) (by decide +kernel)
set_option maxRecDepth 20000 in
theorem gX9_possible_X4_suppose : GoodIn wsX9_possible (wsV RX9 249 RX4 yX4_suppose wsX4_suppose) := goodIn_app (goodIn_of _ (by decide +kernel)) ggX9_possible_X4_suppose
set_option maxRecDepth 20000 in
theorem ggX9_possible_X5_allSo : GoodIn wsX9_possible wsX5_allSo := goodIn_r _ [36, 37, 38, 39, 40, 41, 42, 43, 7, 44, 15, 10, 45, 46, 47, 19, 48, 21, 24, 49, 50, 51, 52, 23, 71, 72, 73, 74, 64, 65, 66, 67, 68, 69, 70] (by decide +kernel) (by decide +kernel)
set_option maxRecDepth 20000 in
theorem gX9_possible_X5_allSo : GoodIn wsX9_possible (wsV RX9 253 RX5 yX5_allSo wsX5_allSo) := goodIn_app (goodIn_of _ (by decide +kernel)) ggX9_possible_X5_allSo
theorem dX9_possible_0 : decode cX9_possible 0 = .ok (.iconst 0, 1) := by decide +kernel
theorem dX9_possible_1 : decode cX9_possible 1 = .ok (.istore 4, 2) := by decide +kernel
theorem dX9_possible_3 : decode cX9_possible 3 = .ok (.aload_n 0, 1) := by decide +kernel
theorem dX9_possible_4 : decode cX9_possible 4 = .ok (.getfield 24, 3) := by decide +kernel
theorem dX9_possible_7 : decode cX9_possible 7 = .ok (.aload_n 0, 1) := by decide +kernel
theorem dX9_possible_8 : decode cX9_possible 8 = .ok (.getfield 20, 3) := by decide +kernel
theorem dX9_possible_11 : decode cX9_possible 11 = .ok (.invokevirtual 161, 3) := by decide +kernel
theorem dX9_possible_14 : decode cX9_possible 14 = .ok (.iconst 0, 1) := by decide +kernel
theorem dX9_possible_15 : decode cX9_possible 15 = .ok (.istore 5, 2) := by decide +kernel
theorem dX9_possible_17 : decode cX9_possible 17 = .ok (.iload 5, 2) := by decide +kernel
theorem dX9_possible_19 : decode cX9_possible 19 = .ok (.iload_n 3, 1) := by decide +kernel
theorem dX9_possible_20 : decode cX9_possible 20 = .ok (.if_icmp .ge 43, 3) := by decide +kernel
theorem dX9_possible_23 : decode cX9_possible 23 = .ok (.aload_n 0, 1) := by decide +kernel
theorem dX9_possible_24 : decode cX9_possible 24 = .ok (.getfield 24, 3) := by decide +kernel
theorem dX9_possible_27 : decode cX9_possible 27 = .ok (.iload_n 1, 1) := by decide +kernel
theorem dX9_possible_28 : decode cX9_possible 28 = .ok (.iload_n 2, 1) := by decide +kernel
theorem dX9_possible_29 : decode cX9_possible 29 = .ok (.iload 5, 2) := by decide +kernel
theorem dX9_possible_31 : decode cX9_possible 31 = .ok (.invokevirtual 249, 3) := by decide +kernel
theorem dX9_possible_34 : decode cX9_possible 34 = .ok (.aload_n 0, 1) := by decide +kernel
theorem dX9_possible_35 : decode cX9_possible 35 = .ok (.getfield 51, 3) := by decide +kernel
theorem dX9_possible_38 : decode cX9_possible 38 = .ok (.aload_n 0, 1) := by decide +kernel
theorem dX9_possible_39 : decode cX9_possible 39 = .ok (.getfield 24, 3) := by decide +kernel
theorem dX9_possible_42 : decode cX9_possible 42 = .ok (.invokevirtual 253, 3) := by decide +kernel
theorem dX9_possible_45 : decode cX9_possible 45 = .ok (.ifCond .eq 12, 3) := by decide +kernel
theorem dX9_possible_48 : decode cX9_possible 48 = .ok (.iload 4, 2) := by decide +kernel
theorem dX9_possible_50 : decode cX9_possible 50 = .ok (.iconst 1, 1) := by decide +kernel
theorem dX9_possible_51 : decode cX9_possible 51 = .ok (.iload 5, 2) := by decide +kernel
theorem dX9_possible_53 : decode cX9_possible 53 = .ok (.ishl, 1) := by decide +kernel
theorem dX9_possible_54 : decode cX9_possible 54 = .ok (.ior, 1) := by decide +kernel
theorem dX9_possible_55 : decode cX9_possible 55 = .ok (.istore 4, 2) := by decide +kernel
theorem dX9_possible_57 : decode cX9_possible 57 = .ok (.iinc 5 1, 3) := by decide +kernel
theorem dX9_possible_60 : decode cX9_possible 60 = .ok (.goto (-43), 3) := by decide +kernel
theorem dX9_possible_63 : decode cX9_possible 63 = .ok (.iload 4, 2) := by decide +kernel
theorem dX9_possible_65 : decode cX9_possible 65 = .ok (.ireturn, 1) := by decide +kernel
set_option maxRecDepth 20000 in
theorem ggX9_waysToBring_X4_becomeLike : GoodIn wsX9_waysToBring wsX4_becomeLike := goodIn_r _ [9, 10, 11, 12, 13, 14, 15, 16, 17, 18, 19, 20, 21, 22, 23, 24, 25, 49, 50, 51, 52, 53, 54, 55] (by decide +kernel) (by decide +kernel)
set_option maxRecDepth 20000 in
theorem gX9_waysToBring_X4_becomeLike : GoodIn wsX9_waysToBring (wsV RX9 161 RX4 yX4_becomeLike wsX4_becomeLike) := goodIn_app (goodIn_of _ (by decide +kernel)) ggX9_waysToBring_X4_becomeLike
set_option maxRecDepth 20000 in
theorem ggX9_waysToBring_X4_bringing : GoodIn wsX9_waysToBring wsX4_bringing := goodIn_r _ [29, 16, 11, 30, 31, 32, 20, 33, 22, 25, 34, 35, 36, 37, 24, 49, 50, 51, 52, 53, 54, 55] (by decide +kernel) (by decide +kernel)
set_option maxRecDepth 20000 in
theorem gX9_waysToBring_X4_bringing : GoodIn wsX9_waysToBring (wsV RX9 143 RX4 yX4_bringing wsX4_bringing) := goodIn_app (goodIn_of _ (by decide +kernel)) ggX9_waysToBring_X4_bringing
theorem dX9_waysToBring_0 : decode cX9_waysToBring 0 = .ok (.iconst 0, 1) := by decide +kernel
theorem dX9_waysToBring_1 : decode cX9_waysToBring 1 = .ok (.istore_n 3, 1) := by decide +kernel
theorem dX9_waysToBring_2 : decode cX9_waysToBring 2 = .ok (.aload_n 0, 1) := by decide +kernel
theorem dX9_waysToBring_3 : decode cX9_waysToBring 3 = .ok (.getfield 24, 3) := by decide +kernel
theorem dX9_waysToBring_6 : decode cX9_waysToBring 6 = .ok (.aload_n 0, 1) := by decide +kernel
theorem dX9_waysToBring_7 : decode cX9_waysToBring 7 = .ok (.getfield 20, 3) := by decide +kernel
theorem dX9_waysToBring_10 : decode cX9_waysToBring 10 = .ok (.invokevirtual 161, 3) := by decide +kernel
theorem dX9_waysToBring_13 : decode cX9_waysToBring 13 = .ok (.iconst 0, 1) := by decide +kernel
theorem dX9_waysToBring_14 : decode cX9_waysToBring 14 = .ok (.istore 4, 2) := by decide +kernel
theorem dX9_waysToBring_16 : decode cX9_waysToBring 16 = .ok (.iload 4, 2) := by decide +kernel
theorem dX9_waysToBring_18 : decode cX9_waysToBring 18 = .ok (.bipush 8, 2) := by decide +kernel
theorem dX9_waysToBring_20 : decode cX9_waysToBring 20 = .ok (.if_icmp .ge 55, 3) := by decide +kernel
theorem dX9_waysToBring_23 : decode cX9_waysToBring 23 = .ok (.aload_n 0, 1) := by decide +kernel
theorem dX9_waysToBring_24 : decode cX9_waysToBring 24 = .ok (.getfield 24, 3) := by decide +kernel
theorem dX9_waysToBring_27 : decode cX9_waysToBring 27 = .ok (.getfield 108, 3) := by decide +kernel
theorem dX9_waysToBring_30 : decode cX9_waysToBring 30 = .ok (.iload_n 1, 1) := by decide +kernel
theorem dX9_waysToBring_31 : decode cX9_waysToBring 31 = .ok (.aaload, 1) := by decide +kernel
theorem dX9_waysToBring_32 : decode cX9_waysToBring 32 = .ok (.iload 4, 2) := by decide +kernel
theorem dX9_waysToBring_34 : decode cX9_waysToBring 34 = .ok (.putfield 120, 3) := by decide +kernel
theorem dX9_waysToBring_37 : decode cX9_waysToBring 37 = .ok (.iconst 0, 1) := by decide +kernel
theorem dX9_waysToBring_38 : decode cX9_waysToBring 38 = .ok (.istore 5, 2) := by decide +kernel
theorem dX9_waysToBring_40 : decode cX9_waysToBring 40 = .ok (.iload 5, 2) := by decide +kernel
theorem dX9_waysToBring_42 : decode cX9_waysToBring 42 = .ok (.iconst 3, 1) := by decide +kernel
theorem dX9_waysToBring_43 : decode cX9_waysToBring 43 = .ok (.if_icmp .ge 26, 3) := by decide +kernel
theorem dX9_waysToBring_46 : decode cX9_waysToBring 46 = .ok (.aload_n 0, 1) := by decide +kernel
theorem dX9_waysToBring_47 : decode cX9_waysToBring 47 = .ok (.getfield 24, 3) := by decide +kernel
theorem dX9_waysToBring_50 : decode cX9_waysToBring 50 = .ok (.iload_n 1, 1) := by decide +kernel
theorem dX9_waysToBring_51 : decode cX9_waysToBring 51 = .ok (.iload 5, 2) := by decide +kernel
theorem dX9_waysToBring_53 : decode cX9_waysToBring 53 = .ok (.invokevirtual 143, 3) := by decide +kernel
theorem dX9_waysToBring_56 : decode cX9_waysToBring 56 = .ok (.iload_n 2, 1) := by decide +kernel
theorem dX9_waysToBring_57 : decode cX9_waysToBring 57 = .ok (.if_icmp .lt 6, 3) := by decide +kernel
theorem dX9_waysToBring_60 : decode cX9_waysToBring 60 = .ok (.iinc 3 1, 3) := by decide +kernel
theorem dX9_waysToBring_63 : decode cX9_waysToBring 63 = .ok (.iinc 5 1, 3) := by decide +kernel
theorem dX9_waysToBring_66 : decode cX9_waysToBring 66 = .ok (.goto (-26), 3) := by decide +kernel
theorem dX9_waysToBring_69 : decode cX9_waysToBring 69 = .ok (.iinc 4 1, 3) := by decide +kernel
theorem dX9_waysToBring_72 : decode cX9_waysToBring 72 = .ok (.goto (-56), 3) := by decide +kernel
theorem dX9_waysToBring_75 : decode cX9_waysToBring 75 = .ok (.iload_n 3, 1) := by decide +kernel
theorem dX9_waysToBring_76 : decode cX9_waysToBring 76 = .ok (.ireturn, 1) := by decide +kernel
theorem dX9_commonDivisor_0 : decode cX9_commonDivisor 0 = .ok (.iload_n 1, 1) := by decide +kernel
theorem dX9_commonDivisor_1 : decode cX9_commonDivisor 1 = .ok (.istore_n 2, 1) := by decide +kernel
theorem dX9_commonDivisor_2 : decode cX9_commonDivisor 2 = .ok (.iload_n 2, 1) := by decide +kernel
theorem dX9_commonDivisor_3 : decode cX9_commonDivisor 3 = .ok (.iconst 1, 1) := by decide +kernel
theorem dX9_commonDivisor_4 : decode cX9_commonDivisor 4 = .ok (.if_icmp .le 23, 3) := by decide +kernel
theorem dX9_commonDivisor_7 : decode cX9_commonDivisor 7 = .ok (.iload_n 0, 1) := by decide +kernel
theorem dX9_commonDivisor_8 : decode cX9_commonDivisor 8 = .ok (.iload_n 2, 1) := by decide +kernel
theorem dX9_commonDivisor_9 : decode cX9_commonDivisor 9 = .ok (.irem, 1) := by decide +kernel
theorem dX9_commonDivisor_10 : decode cX9_commonDivisor 10 = .ok (.ifCond .ne 11, 3) := by decide +kernel
theorem dX9_commonDivisor_13 : decode cX9_commonDivisor 13 = .ok (.iload_n 1, 1) := by decide +kernel
theorem dX9_commonDivisor_14 : decode cX9_commonDivisor 14 = .ok (.iload_n 2, 1) := by decide +kernel
theorem dX9_commonDivisor_15 : decode cX9_commonDivisor 15 = .ok (.irem, 1) := by decide +kernel
theorem dX9_commonDivisor_16 : decode cX9_commonDivisor 16 = .ok (.ifCond .ne 5, 3) := by decide +kernel
theorem dX9_commonDivisor_19 : decode cX9_commonDivisor 19 = .ok (.iload_n 2, 1) := by decide +kernel
theorem dX9_commonDivisor_20 : decode cX9_commonDivisor 20 = .ok (.ireturn, 1) := by decide +kernel
theorem dX9_commonDivisor_21 : decode cX9_commonDivisor 21 = .ok (.iinc 2 (-1), 3) := by decide +kernel
theorem dX9_commonDivisor_24 : decode cX9_commonDivisor 24 = .ok (.goto (-22), 3) := by decide +kernel
theorem dX9_commonDivisor_27 : decode cX9_commonDivisor 27 = .ok (.iconst 1, 1) := by decide +kernel
theorem dX9_commonDivisor_28 : decode cX9_commonDivisor 28 = .ok (.ireturn, 1) := by decide +kernel
