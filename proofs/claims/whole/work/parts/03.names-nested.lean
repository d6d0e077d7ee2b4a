theorem dX0_init_0 : decode cX0_init 0 = .ok (.aload_n 0, 1) := by decide +kernel
theorem dX0_init_1 : decode cX0_init 1 = .ok (.invokespecial 3, 3) := by decide +kernel
theorem dX0_init_4 : decode cX0_init 4 = .ok (.aload_n 0, 1) := by decide +kernel
theorem dX0_init_5 : decode cX0_init 5 = .ok (.iconst 0, 1) := by decide +kernel
theorem dX0_init_6 : decode cX0_init 6 = .ok (.putfield 9, 3) := by decide +kernel
theorem dX0_init_9 : decode cX0_init 9 = .ok (.return_, 1) := by decide +kernel
theorem dX0_begin_0 : decode cX0_begin 0 = .ok (.aload_n 0, 1) := by decide +kernel
theorem dX0_begin_1 : decode cX0_begin 1 = .ok (.bipush 31, 2) := by decide +kernel
theorem dX0_begin_3 : decode cX0_begin 3 = .ok (.aload_n 0, 1) := by decide +kernel
theorem dX0_begin_4 : decode cX0_begin 4 = .ok (.getfield 9, 3) := by decide +kernel
theorem dX0_begin_7 : decode cX0_begin 7 = .ok (.imul, 1) := by decide +kernel
theorem dX0_begin_8 : decode cX0_begin 8 = .ok (.iload_n 1, 1) := by decide +kernel
theorem dX0_begin_9 : decode cX0_begin 9 = .ok (.iadd, 1) := by decide +kernel
theorem dX0_begin_10 : decode cX0_begin 10 = .ok (.putfield 9, 3) := by decide +kernel
theorem dX0_begin_13 : decode cX0_begin 13 = .ok (.return_, 1) := by decide +kernel
set_option maxRecDepth 20000 in
theorem ggX0_telling_X0_twinTelling : GoodIn wsX0_telling wsX0_twinTelling := goodIn_r _ [6, 7, 8, 9, 5, 10, 11, 12, 13, 14, 15, 16, 25, 21, 22, 23, 24] (by decide +kernel) (by decide +kernel)
set_option maxRecDepth 20000 in
theorem gX0_telling_X0_twinTelling : GoodIn wsX0_telling (wsV RX0 20 RX0 yX0_twinTelling wsX0_twinTelling) := goodIn_app (goodIn_of _ (by decide +kernel)) ggX0_telling_X0_twinTelling
set_option maxRecDepth 20000 in
theorem ggX0_telling_X0_hermitTelling : GoodIn wsX0_telling wsX0_hermitTelling := goodIn_r _ [20, 7, 8, 9, 5, 10, 11, 2, 3, 4, 6, 12, 13, 14, 15, 16, 25, 21, 22, 23, 24] (by decide +kernel) (by decide +kernel)
set_option maxRecDepth 20000 in
theorem gX0_telling_X0_hermitTelling : GoodIn wsX0_telling (wsV RX0 24 RX0 yX0_hermitTelling wsX0_hermitTelling) := goodIn_app (goodIn_of _ (by decide +kernel)) ggX0_telling_X0_hermitTelling
set_option maxRecDepth 20000 in
theorem ggX0_telling_X0_gooseherdTelling : GoodIn wsX0_telling wsX0_gooseherdTelling := goodIn_r _ [15, 16, 7, 8, 9, 5, 10, 11, 21, 22, 23, 24, 25] (by decide +kernel) (by decide +kernel)
set_option maxRecDepth 20000 in
theorem gX0_telling_X0_gooseherdTelling : GoodIn wsX0_telling (wsV RX0 27 RX0 yX0_gooseherdTelling wsX0_gooseherdTelling) := goodIn_app (goodIn_of _ (by decide +kernel)) ggX0_telling_X0_gooseherdTelling
theorem dX0_telling_0 : decode cX0_telling 0 = .ok (.aload_n 1, 1) := by decide +kernel
theorem dX0_telling_1 : decode cX0_telling 1 = .ok (.getfield 15, 3) := by decide +kernel
theorem dX0_telling_4 : decode cX0_telling 4 = .ok (.lookupswitch 40 #[(1, 28), (2, 34)], 28) := by decide +kernel
theorem dX0_telling_32 : decode cX0_telling 32 = .ok (.aload_n 0, 1) := by decide +kernel
theorem dX0_telling_33 : decode cX0_telling 33 = .ok (.aload_n 1, 1) := by decide +kernel
theorem dX0_telling_34 : decode cX0_telling 34 = .ok (.invokevirtual 20, 3) := by decide +kernel
theorem dX0_telling_37 : decode cX0_telling 37 = .ok (.ireturn, 1) := by decide +kernel
theorem dX0_telling_38 : decode cX0_telling 38 = .ok (.aload_n 0, 1) := by decide +kernel
theorem dX0_telling_39 : decode cX0_telling 39 = .ok (.aload_n 1, 1) := by decide +kernel
theorem dX0_telling_40 : decode cX0_telling 40 = .ok (.invokevirtual 24, 3) := by decide +kernel
theorem dX0_telling_43 : decode cX0_telling 43 = .ok (.ireturn, 1) := by decide +kernel
theorem dX0_telling_44 : decode cX0_telling 44 = .ok (.aload_n 0, 1) := by decide +kernel
theorem dX0_telling_45 : decode cX0_telling 45 = .ok (.aload_n 1, 1) := by decide +kernel
theorem dX0_telling_46 : decode cX0_telling 46 = .ok (.invokevirtual 27, 3) := by decide +kernel
theorem dX0_telling_49 : decode cX0_telling 49 = .ok (.ireturn, 1) := by decide +kernel
set_option maxRecDepth 20000 in
theorem ggX0_gooseherdTelling_X0_begin : GoodIn wsX0_gooseherdTelling wsX0_begin := goodIn_r _ [6, 7, 12] (by decide +kernel) (by decide +kernel)
set_option maxRecDepth 20000 in
theorem gX0_gooseherdTelling_X0_begin : GoodIn wsX0_gooseherdTelling (wsV RX0 30 RX0 yX0_begin wsX0_begin) := goodIn_app (goodIn_of _ (by decide +kernel)) ggX0_gooseherdTelling_X0_begin
theorem dX0_gooseherdTelling_0 : decode cX0_gooseherdTelling 0 = .ok (.aload_n 0, 1) := by decide +kernel
theorem dX0_gooseherdTelling_1 : decode cX0_gooseherdTelling 1 = .ok (.iconst 1, 1) := by decide +kernel
theorem dX0_gooseherdTelling_2 : decode cX0_gooseherdTelling 2 = .ok (.invokevirtual 30, 3) := by decide +kernel
theorem dX0_gooseherdTelling_5 : decode cX0_gooseherdTelling 5 = .ok (.aload_n 1, 1) := by decide +kernel
theorem dX0_gooseherdTelling_6 : decode cX0_gooseherdTelling 6 = .ok (.getfield 34, 3) := by decide +kernel
theorem dX0_gooseherdTelling_9 : decode cX0_gooseherdTelling 9 = .ok (.ireturn, 1) := by decide +kernel
set_option maxRecDepth 20000 in
theorem ggX0_twinTelling_X0_begin : GoodIn wsX0_twinTelling wsX0_begin := goodIn_r _ [5, 6, 12] (by decide +kernel) (by decide +kernel)
set_option maxRecDepth 20000 in
theorem gX0_twinTelling_X0_begin : GoodIn wsX0_twinTelling (wsV RX0 30 RX0 yX0_begin wsX0_begin) := goodIn_app (goodIn_of _ (by decide +kernel)) ggX0_twinTelling_X0_begin
set_option maxRecDepth 20000 in
theorem ggX0_twinTelling_X0_gooseherdTelling : GoodIn wsX0_twinTelling wsX0_gooseherdTelling := goodIn_r _ [10, 11, 1, 2, 3, 4, 5, 6, 13, 14, 15, 16, 12] (by decide +kernel) (by decide +kernel)
set_option maxRecDepth 20000 in
theorem gX0_twinTelling_X0_gooseherdTelling : GoodIn wsX0_twinTelling (wsV RX0 27 RX0 yX0_gooseherdTelling wsX0_gooseherdTelling) := goodIn_app (goodIn_of _ (by decide +kernel)) ggX0_twinTelling_X0_gooseherdTelling
theorem dX0_twinTelling_0 : decode cX0_twinTelling 0 = .ok (.aload_n 0, 1) := by decide +kernel
theorem dX0_twinTelling_1 : decode cX0_twinTelling 1 = .ok (.iconst 2, 1) := by decide +kernel
theorem dX0_twinTelling_2 : decode cX0_twinTelling 2 = .ok (.invokevirtual 30, 3) := by decide +kernel
theorem dX0_twinTelling_5 : decode cX0_twinTelling 5 = .ok (.aload_n 0, 1) := by decide +kernel
theorem dX0_twinTelling_6 : decode cX0_twinTelling 6 = .ok (.aload_n 1, 1) := by decide +kernel
theorem dX0_twinTelling_7 : decode cX0_twinTelling 7 = .ok (.invokevirtual 27, 3) := by decide +kernel
theorem dX0_twinTelling_10 : decode cX0_twinTelling 10 = .ok (.bipush 100, 2) := by decide +kernel
theorem dX0_twinTelling_12 : decode cX0_twinTelling 12 = .ok (.iadd, 1) := by decide +kernel
theorem dX0_twinTelling_13 : decode cX0_twinTelling 13 = .ok (.ireturn, 1) := by decide +kernel
set_option maxRecDepth 20000 in
theorem ggX0_hermitTelling_X0_begin : GoodIn wsX0_hermitTelling wsX0_begin := goodIn_r _ [5, 6, 16] (by decide +kernel) (by decide +kernel)
set_option maxRecDepth 20000 in
theorem gX0_hermitTelling_X0_begin : GoodIn wsX0_hermitTelling (wsV RX0 30 RX0 yX0_begin wsX0_begin) := goodIn_app (goodIn_of _ (by decide +kernel)) ggX0_hermitTelling_X0_begin
set_option maxRecDepth 20000 in
theorem ggX0_hermitTelling_X0_twinTelling : GoodIn wsX0_hermitTelling wsX0_twinTelling := goodIn_r _ [10, 1, 2, 3, 4, 5, 6, 11, 12, 13, 14, 15, 16, 17, 18, 19, 20] (by decide +kernel) (by decide +kernel)
set_option maxRecDepth 20000 in
theorem gX0_hermitTelling_X0_twinTelling : GoodIn wsX0_hermitTelling (wsV RX0 20 RX0 yX0_twinTelling wsX0_twinTelling) := goodIn_app (goodIn_of _ (by decide +kernel)) ggX0_hermitTelling_X0_twinTelling
set_option maxRecDepth 20000 in
theorem ggX0_hermitTelling_X0_gooseherdTelling : GoodIn wsX0_hermitTelling wsX0_gooseherdTelling := goodIn_r _ [14, 15, 1, 2, 3, 4, 5, 6, 17, 18, 19, 20, 16] (by decide +kernel) (by decide +kernel)
set_option maxRecDepth 20000 in
theorem gX0_hermitTelling_X0_gooseherdTelling : GoodIn wsX0_hermitTelling (wsV RX0 27 RX0 yX0_gooseherdTelling wsX0_gooseherdTelling) := goodIn_app (goodIn_of _ (by decide +kernel)) ggX0_hermitTelling_X0_gooseherdTelling
theorem dX0_hermitTelling_0 : decode cX0_hermitTelling 0 = .ok (.aload_n 0, 1) := by decide +kernel
theorem dX0_hermitTelling_1 : decode cX0_hermitTelling 1 = .ok (.iconst 3, 1) := by decide +kernel
theorem dX0_hermitTelling_2 : decode cX0_hermitTelling 2 = .ok (.invokevirtual 30, 3) := by decide +kernel
theorem dX0_hermitTelling_5 : decode cX0_hermitTelling 5 = .ok (.aload_n 0, 1) := by decide +kernel
theorem dX0_hermitTelling_6 : decode cX0_hermitTelling 6 = .ok (.aload_n 1, 1) := by decide +kernel
theorem dX0_hermitTelling_7 : decode cX0_hermitTelling 7 = .ok (.invokevirtual 20, 3) := by decide +kernel
theorem dX0_hermitTelling_10 : decode cX0_hermitTelling 10 = .ok (.istore_n 2, 1) := by decide +kernel
theorem dX0_hermitTelling_11 : decode cX0_hermitTelling 11 = .ok (.iload_n 2, 1) := by decide +kernel
theorem dX0_hermitTelling_12 : decode cX0_hermitTelling 12 = .ok (.aload_n 0, 1) := by decide +kernel
theorem dX0_hermitTelling_13 : decode cX0_hermitTelling 13 = .ok (.aload_n 1, 1) := by decide +kernel
theorem dX0_hermitTelling_14 : decode cX0_hermitTelling 14 = .ok (.invokevirtual 27, 3) := by decide +kernel
theorem dX0_hermitTelling_17 : decode cX0_hermitTelling 17 = .ok (.iadd, 1) := by decide +kernel
theorem dX0_hermitTelling_18 : decode cX0_hermitTelling 18 = .ok (.ireturn, 1) := by decide +kernel
set_option maxRecDepth 20000 in
theorem ggX0_greeting_X0_begin : GoodIn wsX0_greeting wsX0_begin := goodIn_r _ [7, 8, 13] (by decide +kernel) (by decide +kernel)
set_option maxRecDepth 20000 in
theorem gX0_greeting_X0_begin : GoodIn wsX0_greeting (wsV RX0 30 RX0 yX0_begin wsX0_begin) := goodIn_app (goodIn_of _ (by decide +kernel)) ggX0_greeting_X0_begin
theorem dX0_greeting_0 : decode cX0_greeting 0 = .ok (.aload_n 1, 1) := by decide +kernel
theorem dX0_greeting_1 : decode cX0_greeting 1 = .ok (.getfield 15, 3) := by decide +kernel
theorem dX0_greeting_4 : decode cX0_greeting 4 = .ok (.iconst 2, 1) := by decide +kernel
theorem dX0_greeting_5 : decode cX0_greeting 5 = .ok (.if_icmp .ne 11, 3) := by decide +kernel
theorem dX0_greeting_8 : decode cX0_greeting 8 = .ok (.aload_n 0, 1) := by decide +kernel
theorem dX0_greeting_9 : decode cX0_greeting 9 = .ok (.iconst 5, 1) := by decide +kernel
theorem dX0_greeting_10 : decode cX0_greeting 10 = .ok (.invokevirtual 30, 3) := by decide +kernel
theorem dX0_greeting_13 : decode cX0_greeting 13 = .ok (.bipush 40, 2) := by decide +kernel
theorem dX0_greeting_15 : decode cX0_greeting 15 = .ok (.ireturn, 1) := by decide +kernel
theorem dX0_greeting_16 : decode cX0_greeting 16 = .ok (.aload_n 0, 1) := by decide +kernel
theorem dX0_greeting_17 : decode cX0_greeting 17 = .ok (.iconst 4, 1) := by decide +kernel
theorem dX0_greeting_18 : decode cX0_greeting 18 = .ok (.invokevirtual 30, 3) := by decide +kernel
theorem dX0_greeting_21 : decode cX0_greeting 21 = .ok (.aload_n 1, 1) := by decide +kernel
theorem dX0_greeting_22 : decode cX0_greeting 22 = .ok (.getfield 37, 3) := by decide +kernel
theorem dX0_greeting_25 : decode cX0_greeting 25 = .ok (.ireturn, 1) := by decide +kernel
theorem dX1_init_0 : decode cX1_init 0 = .ok (.aload_n 0, 1) := by decide +kernel
theorem dX1_init_1 : decode cX1_init 1 = .ok (.invokespecial 3, 3) := by decide +kernel
theorem dX1_init_4 : decode cX1_init 4 = .ok (.aload_n 0, 1) := by decide +kernel
theorem dX1_init_5 : decode cX1_init 5 = .ok (.iconst 3, 1) := by decide +kernel
theorem dX1_init_6 : decode cX1_init 6 = .ok (.newarray .int, 2) := by decide +kernel
theorem dX1_init_8 : decode cX1_init 8 = .ok (.putfield 9, 3) := by decide +kernel
theorem dX1_init_11 : decode cX1_init 11 = .ok (.aload_n 0, 1) := by decide +kernel
theorem dX1_init_12 : decode cX1_init 12 = .ok (.iconst 0, 1) := by decide +kernel
theorem dX1_init_13 : decode cX1_init 13 = .ok (.putfield 15, 3) := by decide +kernel
theorem dX1_init_16 : decode cX1_init 16 = .ok (.return_, 1) := by decide +kernel
set_option maxRecDepth 20000 in
theorem ggX1_give_X1_consider : GoodIn wsX1_give wsX1_consider := goodIn_r _ [7, 1, 8, 9, 10, 11, 2, 12, 13, 14, 6, 15, 16, 17, 18, 19, 20, 21, 22, 23, 24, 25, 26, 27, 28, 29, 30, 31, 32, 33, 34, 35, 36, 37, 38, 39, 40, 41, 42, 43, 44, 45, 46, 47, 48, 49, 50, 51] (by decide +kernel) (by decide +kernel)
set_option maxRecDepth 20000 in
theorem gX1_give_X1_consider : GoodIn wsX1_give (wsV RX1 24 RX1 yX1_consider wsX1_consider) := goodIn_app (goodIn_of _ (by decide +kernel)) ggX1_give_X1_consider
theorem dX1_give_0 : decode cX1_give 0 = .ok (.aload_n 1, 1) := by decide +kernel
theorem dX1_give_1 : decode cX1_give 1 = .ok (.getfield 19, 3) := by decide +kernel
theorem dX1_give_4 : decode cX1_give 4 = .ok (.istore_n 2, 1) := by decide +kernel
theorem dX1_give_5 : decode cX1_give 5 = .ok (.aload_n 0, 1) := by decide +kernel
theorem dX1_give_6 : decode cX1_give 6 = .ok (.iconst (-1), 1) := by decide +kernel
theorem dX1_give_7 : decode cX1_give 7 = .ok (.putfield 15, 3) := by decide +kernel
theorem dX1_give_10 : decode cX1_give 10 = .ok (.iconst 0, 1) := by decide +kernel
theorem dX1_give_11 : decode cX1_give 11 = .ok (.istore_n 3, 1) := by decide +kernel
theorem dX1_give_12 : decode cX1_give 12 = .ok (.iload_n 3, 1) := by decide +kernel
theorem dX1_give_13 : decode cX1_give 13 = .ok (.iload_n 2, 1) := by decide +kernel
theorem dX1_give_14 : decode cX1_give 14 = .ok (.if_icmp .gt 49, 3) := by decide +kernel
theorem dX1_give_17 : decode cX1_give 17 = .ok (.iconst 0, 1) := by decide +kernel
theorem dX1_give_18 : decode cX1_give 18 = .ok (.istore 4, 2) := by decide +kernel
theorem dX1_give_20 : decode cX1_give 20 = .ok (.iload 4, 2) := by decide +kernel
theorem dX1_give_22 : decode cX1_give 22 = .ok (.iload_n 2, 1) := by decide +kernel
theorem dX1_give_23 : decode cX1_give 23 = .ok (.if_icmp .gt 34, 3) := by decide +kernel
theorem dX1_give_26 : decode cX1_give 26 = .ok (.iconst 0, 1) := by decide +kernel
theorem dX1_give_27 : decode cX1_give 27 = .ok (.istore 5, 2) := by decide +kernel
theorem dX1_give_29 : decode cX1_give 29 = .ok (.iload 5, 2) := by decide +kernel
theorem dX1_give_31 : decode cX1_give 31 = .ok (.iload_n 2, 1) := by decide +kernel
theorem dX1_give_32 : decode cX1_give 32 = .ok (.if_icmp .gt 19, 3) := by decide +kernel
theorem dX1_give_35 : decode cX1_give 35 = .ok (.aload_n 0, 1) := by decide +kernel
theorem dX1_give_36 : decode cX1_give 36 = .ok (.iload_n 3, 1) := by decide +kernel
theorem dX1_give_37 : decode cX1_give 37 = .ok (.iload 4, 2) := by decide +kernel
theorem dX1_give_39 : decode cX1_give 39 = .ok (.iload 5, 2) := by decide +kernel
theorem dX1_give_41 : decode cX1_give 41 = .ok (.aload_n 1, 1) := by decide +kernel
theorem dX1_give_42 : decode cX1_give 42 = .ok (.invokevirtual 24, 3) := by decide +kernel
theorem dX1_give_45 : decode cX1_give 45 = .ok (.iinc 5 1, 3) := by decide +kernel
theorem dX1_give_48 : decode cX1_give 48 = .ok (.goto (-19), 3) := by decide +kernel
theorem dX1_give_51 : decode cX1_give 51 = .ok (.iinc 4 1, 3) := by decide +kernel
theorem dX1_give_54 : decode cX1_give 54 = .ok (.goto (-34), 3) := by decide +kernel
theorem dX1_give_57 : decode cX1_give 57 = .ok (.iinc 3 1, 3) := by decide +kernel
theorem dX1_give_60 : decode cX1_give 60 = .ok (.goto (-48), 3) := by decide +kernel
theorem dX1_give_63 : decode cX1_give 63 = .ok (.return_, 1) := by decide +kernel
set_option maxRecDepth 20000 in
theorem ggX1_consider_X1_gain : GoodIn wsX1_consider wsX1_gain := goodIn_r _ [11, 12, 13, 14, 15, 16, 17, 18, 19, 20, 21, 22, 23, 24, 25, 26, 27, 28, 29, 30, 31, 32, 33, 34, 35, 36, 37, 38, 39, 40, 41, 44, 45, 46, 47] (by decide +kernel) (by decide +kernel)
set_option maxRecDepth 20000 in
theorem gX1_consider_X1_gain : GoodIn wsX1_consider (va_wsS RX1 34 yX1_gain wsX1_gain) := goodIn_app (goodIn_of _ (by decide +kernel)) ggX1_consider_X1_gain
theorem dX1_consider_0 : decode cX1_consider 0 = .ok (.aload 4, 2) := by decide +kernel
theorem dX1_consider_2 : decode cX1_consider 2 = .ok (.getfield 19, 3) := by decide +kernel
theorem dX1_consider_5 : decode cX1_consider 5 = .ok (.istore 5, 2) := by decide +kernel
theorem dX1_consider_7 : decode cX1_consider 7 = .ok (.iload_n 1, 1) := by decide +kernel
theorem dX1_consider_8 : decode cX1_consider 8 = .ok (.iload_n 2, 1) := by decide +kernel
theorem dX1_consider_9 : decode cX1_consider 9 = .ok (.if_icmp .ne 9, 3) := by decide +kernel
theorem dX1_consider_12 : decode cX1_consider 12 = .ok (.iload_n 1, 1) := by decide +kernel
theorem dX1_consider_13 : decode cX1_consider 13 = .ok (.iload 5, 2) := by decide +kernel
theorem dX1_consider_15 : decode cX1_consider 15 = .ok (.if_icmp .ne 25, 3) := by decide +kernel
theorem dX1_consider_18 : decode cX1_consider 18 = .ok (.iload_n 1, 1) := by decide +kernel
theorem dX1_consider_19 : decode cX1_consider 19 = .ok (.iload_n 3, 1) := by decide +kernel
theorem dX1_consider_20 : decode cX1_consider 20 = .ok (.if_icmp .ne 9, 3) := by decide +kernel
theorem dX1_consider_23 : decode cX1_consider 23 = .ok (.iload_n 1, 1) := by decide +kernel
theorem dX1_consider_24 : decode cX1_consider 24 = .ok (.iload 5, 2) := by decide +kernel
theorem dX1_consider_26 : decode cX1_consider 26 = .ok (.if_icmp .ne 14, 3) := by decide +kernel
theorem dX1_consider_29 : decode cX1_consider 29 = .ok (.iload_n 2, 1) := by decide +kernel
theorem dX1_consider_30 : decode cX1_consider 30 = .ok (.iload_n 3, 1) := by decide +kernel
theorem dX1_consider_31 : decode cX1_consider 31 = .ok (.if_icmp .ne 13, 3) := by decide +kernel
theorem dX1_consider_34 : decode cX1_consider 34 = .ok (.iload_n 2, 1) := by decide +kernel
theorem dX1_consider_35 : decode cX1_consider 35 = .ok (.iload 5, 2) := by decide +kernel
theorem dX1_consider_37 : decode cX1_consider 37 = .ok (.if_icmp .eq 7, 3) := by decide +kernel
theorem dX1_consider_40 : decode cX1_consider 40 = .ok (.iconst 1, 1) := by decide +kernel
theorem dX1_consider_41 : decode cX1_consider 41 = .ok (.goto 4, 3) := by decide +kernel
theorem dX1_consider_44 : decode cX1_consider 44 = .ok (.iconst 0, 1) := by decide +kernel
theorem dX1_consider_45 : decode cX1_consider 45 = .ok (.istore 6, 2) := by decide +kernel
theorem dX1_consider_47 : decode cX1_consider 47 = .ok (.iload_n 1, 1) := by decide +kernel
theorem dX1_consider_48 : decode cX1_consider 48 = .ok (.iload 5, 2) := by decide +kernel
theorem dX1_consider_50 : decode cX1_consider 50 = .ok (.if_icmp .eq 7, 3) := by decide +kernel
theorem dX1_consider_53 : decode cX1_consider 53 = .ok (.iconst 1, 1) := by decide +kernel
theorem dX1_consider_54 : decode cX1_consider 54 = .ok (.goto 4, 3) := by decide +kernel
theorem dX1_consider_57 : decode cX1_consider 57 = .ok (.iconst 0, 1) := by decide +kernel
theorem dX1_consider_58 : decode cX1_consider 58 = .ok (.iload_n 2, 1) := by decide +kernel
theorem dX1_consider_59 : decode cX1_consider 59 = .ok (.iload 5, 2) := by decide +kernel
theorem dX1_consider_61 : decode cX1_consider 61 = .ok (.if_icmp .eq 7, 3) := by decide +kernel
theorem dX1_consider_64 : decode cX1_consider 64 = .ok (.iconst 1, 1) := by decide +kernel
theorem dX1_consider_65 : decode cX1_consider 65 = .ok (.goto 4, 3) := by decide +kernel
theorem dX1_consider_68 : decode cX1_consider 68 = .ok (.iconst 0, 1) := by decide +kernel
theorem dX1_consider_69 : decode cX1_consider 69 = .ok (.iadd, 1) := by decide +kernel
theorem dX1_consider_70 : decode cX1_consider 70 = .ok (.iload_n 3, 1) := by decide +kernel
theorem dX1_consider_71 : decode cX1_consider 71 = .ok (.iload 5, 2) := by decide +kernel
theorem dX1_consider_73 : decode cX1_consider 73 = .ok (.if_icmp .eq 7, 3) := by decide +kernel
theorem dX1_consider_76 : decode cX1_consider 76 = .ok (.iconst 1, 1) := by decide +kernel
theorem dX1_consider_77 : decode cX1_consider 77 = .ok (.goto 4, 3) := by decide +kernel
theorem dX1_consider_80 : decode cX1_consider 80 = .ok (.iconst 0, 1) := by decide +kernel
theorem dX1_consider_81 : decode cX1_consider 81 = .ok (.iadd, 1) := by decide +kernel
theorem dX1_consider_82 : decode cX1_consider 82 = .ok (.istore 7, 2) := by decide +kernel
theorem dX1_consider_84 : decode cX1_consider 84 = .ok (.iload 6, 2) := by decide +kernel
theorem dX1_consider_86 : decode cX1_consider 86 = .ok (.ifCond .ne 14, 3) := by decide +kernel
theorem dX1_consider_89 : decode cX1_consider 89 = .ok (.iload 7, 2) := by decide +kernel
theorem dX1_consider_91 : decode cX1_consider 91 = .ok (.iconst 3, 1) := by decide +kernel
theorem dX1_consider_92 : decode cX1_consider 92 = .ok (.iload 5, 2) := by decide +kernel
theorem dX1_consider_94 : decode cX1_consider 94 = .ok (.invokestatic 28, 3) := by decide +kernel
theorem dX1_consider_97 : decode cX1_consider 97 = .ok (.if_icmp .eq 4, 3) := by decide +kernel
theorem dX1_consider_100 : decode cX1_consider 100 = .ok (.return_, 1) := by decide +kernel
theorem dX1_consider_101 : decode cX1_consider 101 = .ok (.iload_n 1, 1) := by decide +kernel
theorem dX1_consider_102 : decode cX1_consider 102 = .ok (.iconst 0, 1) := by decide +kernel
theorem dX1_consider_103 : decode cX1_consider 103 = .ok (.aload 4, 2) := by decide +kernel
theorem dX1_consider_105 : decode cX1_consider 105 = .ok (.invokestatic 34, 3) := by decide +kernel
theorem dX1_consider_108 : decode cX1_consider 108 = .ok (.iload_n 2, 1) := by decide +kernel
theorem dX1_consider_109 : decode cX1_consider 109 = .ok (.iconst 1, 1) := by decide +kernel
theorem dX1_consider_110 : decode cX1_consider 110 = .ok (.aload 4, 2) := by decide +kernel
theorem dX1_consider_112 : decode cX1_consider 112 = .ok (.invokestatic 34, 3) := by decide +kernel
theorem dX1_consider_115 : decode cX1_consider 115 = .ok (.iadd, 1) := by decide +kernel
theorem dX1_consider_116 : decode cX1_consider 116 = .ok (.iload_n 3, 1) := by decide +kernel
theorem dX1_consider_117 : decode cX1_consider 117 = .ok (.iconst 2, 1) := by decide +kernel
theorem dX1_consider_118 : decode cX1_consider 118 = .ok (.aload 4, 2) := by decide +kernel
theorem dX1_consider_120 : decode cX1_consider 120 = .ok (.invokestatic 34, 3) := by decide +kernel
theorem dX1_consider_123 : decode cX1_consider 123 = .ok (.iadd, 1) := by decide +kernel
theorem dX1_consider_124 : decode cX1_consider 124 = .ok (.istore 8, 2) := by decide +kernel
theorem dX1_consider_126 : decode cX1_consider 126 = .ok (.iload 8, 2) := by decide +kernel
theorem dX1_consider_128 : decode cX1_consider 128 = .ok (.aload_n 0, 1) := by decide +kernel
theorem dX1_consider_129 : decode cX1_consider 129 = .ok (.getfield 15, 3) := by decide +kernel
theorem dX1_consider_132 : decode cX1_consider 132 = .ok (.if_icmp .le 63, 3) := by decide +kernel
theorem dX1_consider_135 : decode cX1_consider 135 = .ok (.aload_n 0, 1) := by decide +kernel
theorem dX1_consider_136 : decode cX1_consider 136 = .ok (.iload 8, 2) := by decide +kernel
theorem dX1_consider_138 : decode cX1_consider 138 = .ok (.putfield 15, 3) := by decide +kernel
theorem dX1_consider_141 : decode cX1_consider 141 = .ok (.aload_n 0, 1) := by decide +kernel
theorem dX1_consider_142 : decode cX1_consider 142 = .ok (.getfield 9, 3) := by decide +kernel
theorem dX1_consider_145 : decode cX1_consider 145 = .ok (.iconst 0, 1) := by decide +kernel
theorem dX1_consider_146 : decode cX1_consider 146 = .ok (.iload_n 1, 1) := by decide +kernel
theorem dX1_consider_147 : decode cX1_consider 147 = .ok (.iload 5, 2) := by decide +kernel
theorem dX1_consider_149 : decode cX1_consider 149 = .ok (.if_icmp .ne 8, 3) := by decide +kernel
theorem dX1_consider_152 : decode cX1_consider 152 = .ok (.bipush (-9), 2) := by decide +kernel
theorem dX1_consider_154 : decode cX1_consider 154 = .ok (.goto 4, 3) := by decide +kernel
theorem dX1_consider_157 : decode cX1_consider 157 = .ok (.iload_n 1, 1) := by decide +kernel
theorem dX1_consider_158 : decode cX1_consider 158 = .ok (.iastore, 1) := by decide +kernel
theorem dX1_consider_159 : decode cX1_consider 159 = .ok (.aload_n 0, 1) := by decide +kernel
theorem dX1_consider_160 : decode cX1_consider 160 = .ok (.getfield 9, 3) := by decide +kernel
theorem dX1_consider_163 : decode cX1_consider 163 = .ok (.iconst 1, 1) := by decide +kernel
theorem dX1_consider_164 : decode cX1_consider 164 = .ok (.iload_n 2, 1) := by decide +kernel
theorem dX1_consider_165 : decode cX1_consider 165 = .ok (.iload 5, 2) := by decide +kernel
theorem dX1_consider_167 : decode cX1_consider 167 = .ok (.if_icmp .ne 8, 3) := by decide +kernel
theorem dX1_consider_170 : decode cX1_consider 170 = .ok (.bipush (-9), 2) := by decide +kernel
theorem dX1_consider_172 : decode cX1_consider 172 = .ok (.goto 4, 3) := by decide +kernel
theorem dX1_consider_175 : decode cX1_consider 175 = .ok (.iload_n 2, 1) := by decide +kernel
theorem dX1_consider_176 : decode cX1_consider 176 = .ok (.iastore, 1) := by decide +kernel
theorem dX1_consider_177 : decode cX1_consider 177 = .ok (.aload_n 0, 1) := by decide +kernel
theorem dX1_consider_178 : decode cX1_consider 178 = .ok (.getfield 9, 3) := by decide +kernel
theorem dX1_consider_181 : decode cX1_consider 181 = .ok (.iconst 2, 1) := by decide +kernel
theorem dX1_consider_182 : decode cX1_consider 182 = .ok (.iload_n 3, 1) := by decide +kernel
theorem dX1_consider_183 : decode cX1_consider 183 = .ok (.iload 5, 2) := by decide +kernel
theorem dX1_consider_185 : decode cX1_consider 185 = .ok (.if_icmp .ne 8, 3) := by decide +kernel
theorem dX1_consider_188 : decode cX1_consider 188 = .ok (.bipush (-9), 2) := by decide +kernel
theorem dX1_consider_190 : decode cX1_consider 190 = .ok (.goto 4, 3) := by decide +kernel
theorem dX1_consider_193 : decode cX1_consider 193 = .ok (.iload_n 3, 1) := by decide +kernel
theorem dX1_consider_194 : decode cX1_consider 194 = .ok (.iastore, 1) := by decide +kernel
theorem dX1_consider_195 : decode cX1_consider 195 = .ok (.return_, 1) := by decide +kernel
set_option maxRecDepth 20000 in
theorem ggX1_gain_X4_hasPerson : GoodIn wsX1_gain wsX4_hasPerson := goodIn_r _ [5, 6, 7, 8, 9, 28, 29, 30] (by decide +kernel) (by decide +kernel)
set_option maxRecDepth 20000 in
theorem gX1_gain_X4_hasPerson : GoodIn wsX1_gain (wsV RX1 38 RX4 yX4_hasPerson wsX4_hasPerson) := goodIn_app (goodIn_of _ (by decide +kernel)) ggX1_gain_X4_hasPerson
set_option maxRecDepth 20000 in
theorem ggX1_gain_X4_bringing : GoodIn wsX1_gain wsX4_bringing := goodIn_r _ [13, 14, 15, 16, 17, 18, 19, 20, 21, 22, 23, 24, 25, 26, 27, 28, 29, 30, 31, 32, 33, 34] (by decide +kernel) (by decide +kernel)
set_option maxRecDepth 20000 in
theorem gX1_gain_X4_bringing : GoodIn wsX1_gain (wsV RX1 42 RX4 yX4_bringing wsX4_bringing) := goodIn_app (goodIn_of _ (by decide +kernel)) ggX1_gain_X4_bringing
theorem dX1_gain_0 : decode cX1_gain 0 = .ok (.aload_n 2, 1) := by decide +kernel
theorem dX1_gain_1 : decode cX1_gain 1 = .ok (.iload_n 0, 1) := by decide +kernel
theorem dX1_gain_2 : decode cX1_gain 2 = .ok (.invokevirtual 38, 3) := by decide +kernel
theorem dX1_gain_5 : decode cX1_gain 5 = .ok (.ifCond .eq 12, 3) := by decide +kernel
theorem dX1_gain_8 : decode cX1_gain 8 = .ok (.aload_n 2, 1) := by decide +kernel
theorem dX1_gain_9 : decode cX1_gain 9 = .ok (.iload_n 0, 1) := by decide +kernel
theorem dX1_gain_10 : decode cX1_gain 10 = .ok (.iload_n 1, 1) := by decide +kernel
theorem dX1_gain_11 : decode cX1_gain 11 = .ok (.invokevirtual 42, 3) := by decide +kernel
theorem dX1_gain_14 : decode cX1_gain 14 = .ok (.goto 4, 3) := by decide +kernel
theorem dX1_gain_17 : decode cX1_gain 17 = .ok (.iconst 0, 1) := by decide +kernel
theorem dX1_gain_18 : decode cX1_gain 18 = .ok (.ireturn, 1) := by decide +kernel
theorem dX2_init_0 : decode cX2_init 0 = .ok (.aload_n 0, 1) := by decide +kernel
theorem dX2_init_1 : decode cX2_init 1 = .ok (.invokespecial 3, 3) := by decide +kernel
theorem dX2_init_4 : decode cX2_init 4 = .ok (.aload_n 0, 1) := by decide +kernel
theorem dX2_init_5 : decode cX2_init 5 = .ok (.iconst 0, 1) := by decide +kernel
theorem dX2_init_6 : decode cX2_init 6 = .ok (.putfield 9, 3) := by decide +kernel
theorem dX2_init_9 : decode cX2_init 9 = .ok (.aload_n 0, 1) := by decide +kernel
theorem dX2_init_10 : decode cX2_init 10 = .ok (.iconst 0, 1) := by decide +kernel
theorem dX2_init_11 : decode cX2_init 11 = .ok (.putfield 15, 3) := by decide +kernel
theorem dX2_init_14 : decode cX2_init 14 = .ok (.aload_n 0, 1) := by decide +kernel
theorem dX2_init_15 : decode cX2_init 15 = .ok (.iconst 0, 1) := by decide +kernel
theorem dX2_init_16 : decode cX2_init 16 = .ok (.putfield 18, 3) := by decide +kernel
theorem dX2_init_19 : decode cX2_init 19 = .ok (.aload_n 0, 1) := by decide +kernel
theorem dX2_init_20 : decode cX2_init 20 = .ok (.iconst 0, 1) := by decide +kernel
theorem dX2_init_21 : decode cX2_init 21 = .ok (.putfield 21, 3) := by decide +kernel
theorem dX2_init_24 : decode cX2_init 24 = .ok (.return_, 1) := by decide +kernel
theorem dX2_isKnowing_0 : decode cX2_isKnowing 0 = .ok (.aload_n 0, 1) := by decide +kernel
theorem dX2_isKnowing_1 : decode cX2_isKnowing 1 = .ok (.getfield 18, 3) := by decide +kernel
theorem dX2_isKnowing_4 : decode cX2_isKnowing 4 = .ok (.iload_n 1, 1) := by decide +kernel
theorem dX2_isKnowing_5 : decode cX2_isKnowing 5 = .ok (.ishr, 1) := by decide +kernel
theorem dX2_isKnowing_6 : decode cX2_isKnowing 6 = .ok (.iconst 1, 1) := by decide +kernel
theorem dX2_isKnowing_7 : decode cX2_isKnowing 7 = .ok (.iand, 1) := by decide +kernel
theorem dX2_isKnowing_8 : decode cX2_isKnowing 8 = .ok (.iconst 1, 1) := by decide +kernel
theorem dX2_isKnowing_9 : decode cX2_isKnowing 9 = .ok (.if_icmp .ne 7, 3) := by decide +kernel
theorem dX2_isKnowing_12 : decode cX2_isKnowing 12 = .ok (.iconst 1, 1) := by decide +kernel
theorem dX2_isKnowing_13 : decode cX2_isKnowing 13 = .ok (.goto 4, 3) := by decide +kernel
theorem dX2_isKnowing_16 : decode cX2_isKnowing 16 = .ok (.iconst 0, 1) := by decide +kernel
theorem dX2_isKnowing_17 : decode cX2_isKnowing 17 = .ok (.ireturn, 1) := by decide +kernel
theorem dX2_saying_0 : decode cX2_saying 0 = .ok (.aload_n 0, 1) := by decide +kernel
theorem dX2_saying_1 : decode cX2_saying 1 = .ok (.getfield 9, 3) := by decide +kernel
theorem dX2_saying_4 : decode cX2_saying 4 = .ok (.iconst 1, 1) := by decide +kernel
theorem dX2_saying_5 : decode cX2_saying 5 = .ok (.if_icmp .ne 10, 3) := by decide +kernel
theorem dX2_saying_8 : decode cX2_saying 8 = .ok (.aload_n 0, 1) := by decide +kernel
theorem dX2_saying_9 : decode cX2_saying 9 = .ok (.getfield 21, 3) := by decide +kernel
theorem dX2_saying_12 : decode cX2_saying 12 = .ok (.iconst 1, 1) := by decide +kernel
theorem dX2_saying_13 : decode cX2_saying 13 = .ok (.iadd, 1) := by decide +kernel
theorem dX2_saying_14 : decode cX2_saying 14 = .ok (.ireturn, 1) := by decide +kernel
theorem dX2_saying_15 : decode cX2_saying 15 = .ok (.aload_n 0, 1) := by decide +kernel
theorem dX2_saying_16 : decode cX2_saying 16 = .ok (.getfield 9, 3) := by decide +kernel
theorem dX2_saying_19 : decode cX2_saying 19 = .ok (.iconst 2, 1) := by decide +kernel
theorem dX2_saying_20 : decode cX2_saying 20 = .ok (.if_icmp .ne 12, 3) := by decide +kernel
theorem dX2_saying_23 : decode cX2_saying 23 = .ok (.iconst 2, 1) := by decide +kernel
theorem dX2_saying_24 : decode cX2_saying 24 = .ok (.aload_n 0, 1) := by decide +kernel
theorem dX2_saying_25 : decode cX2_saying 25 = .ok (.getfield 21, 3) := by decide +kernel
theorem dX2_saying_28 : decode cX2_saying 28 = .ok (.imul, 1) := by decide +kernel
theorem dX2_saying_29 : decode cX2_saying 29 = .ok (.goto 7, 3) := by decide +kernel
theorem dX2_saying_32 : decode cX2_saying 32 = .ok (.aload_n 0, 1) := by decide +kernel
theorem dX2_saying_33 : decode cX2_saying 33 = .ok (.getfield 21, 3) := by decide +kernel
theorem dX2_saying_36 : decode cX2_saying 36 = .ok (.ireturn, 1) := by decide +kernel
theorem dX2_becomeLike_0 : decode cX2_becomeLike 0 = .ok (.aload_n 0, 1) := by decide +kernel
theorem dX2_becomeLike_1 : decode cX2_becomeLike 1 = .ok (.aload_n 1, 1) := by decide +kernel
theorem dX2_becomeLike_2 : decode cX2_becomeLike 2 = .ok (.getfield 9, 3) := by decide +kernel
theorem dX2_becomeLike_5 : decode cX2_becomeLike 5 = .ok (.putfield 9, 3) := by decide +kernel
theorem dX2_becomeLike_8 : decode cX2_becomeLike 8 = .ok (.aload_n 0, 1) := by decide +kernel
theorem dX2_becomeLike_9 : decode cX2_becomeLike 9 = .ok (.aload_n 1, 1) := by decide +kernel
theorem dX2_becomeLike_10 : decode cX2_becomeLike 10 = .ok (.getfield 15, 3) := by decide +kernel
theorem dX2_becomeLike_13 : decode cX2_becomeLike 13 = .ok (.putfield 15, 3) := by decide +kernel
theorem dX2_becomeLike_16 : decode cX2_becomeLike 16 = .ok (.aload_n 0, 1) := by decide +kernel
theorem dX2_becomeLike_17 : decode cX2_becomeLike 17 = .ok (.aload_n 1, 1) := by decide +kernel
theorem dX2_becomeLike_18 : decode cX2_becomeLike 18 = .ok (.getfield 18, 3) := by decide +kernel
theorem dX2_becomeLike_21 : decode cX2_becomeLike 21 = .ok (.putfield 18, 3) := by decide +kernel
theorem dX2_becomeLike_24 : decode cX2_becomeLike 24 = .ok (.aload_n 0, 1) := by decide +kernel
theorem dX2_becomeLike_25 : decode cX2_becomeLike 25 = .ok (.aload_n 1, 1) := by decide +kernel
theorem dX2_becomeLike_26 : decode cX2_becomeLike 26 = .ok (.getfield 21, 3) := by decide +kernel
theorem dX2_becomeLike_29 : decode cX2_becomeLike 29 = .ok (.putfield 21, 3) := by decide +kernel
theorem dX2_becomeLike_32 : decode cX2_becomeLike 32 = .ok (.return_, 1) := by decide +kernel
theorem dX3_init_0 : decode cX3_init 0 = .ok (.aload_n 0, 1) := by decide +kernel
theorem dX3_init_1 : decode cX3_init 1 = .ok (.invokespecial 3, 3) := by decide +kernel
theorem dX3_init_4 : decode cX3_init 4 = .ok (.aload_n 0, 1) := by decide +kernel
theorem dX3_init_5 : decode cX3_init 5 = .ok (.bipush 7, 2) := by decide +kernel
theorem dX3_init_7 : decode cX3_init 7 = .ok (.newarray .int, 2) := by decide +kernel
theorem dX3_init_9 : decode cX3_init 9 = .ok (.putfield 9, 3) := by decide +kernel
theorem dX3_init_12 : decode cX3_init 12 = .ok (.aload_n 0, 1) := by decide +kernel
theorem dX3_init_13 : decode cX3_init 13 = .ok (.bipush 7, 2) := by decide +kernel
theorem dX3_init_15 : decode cX3_init 15 = .ok (.newarray .int, 2) := by decide +kernel
theorem dX3_init_17 : decode cX3_init 17 = .ok (.putfield 15, 3) := by decide +kernel
theorem dX3_init_20 : decode cX3_init 20 = .ok (.aload_n 0, 1) := by decide +kernel
theorem dX3_init_21 : decode cX3_init 21 = .ok (.bipush 7, 2) := by decide +kernel
theorem dX3_init_23 : decode cX3_init 23 = .ok (.newarray .int, 2) := by decide +kernel
theorem dX3_init_25 : decode cX3_init 25 = .ok (.putfield 18, 3) := by decide +kernel
theorem dX3_init_28 : decode cX3_init 28 = .ok (.aload_n 0, 1) := by decide +kernel
theorem dX3_init_29 : decode cX3_init 29 = .ok (.sipush 128, 3) := by decide +kernel
theorem dX3_init_32 : decode cX3_init 32 = .ok (.newarray .int, 2) := by decide +kernel
theorem dX3_init_34 : decode cX3_init 34 = .ok (.putfield 21, 3) := by decide +kernel
theorem dX3_init_37 : decode cX3_init 37 = .ok (.aload_n 0, 1) := by decide +kernel
theorem dX3_init_38 : decode cX3_init 38 = .ok (.iconst 0, 1) := by decide +kernel
theorem dX3_init_39 : decode cX3_init 39 = .ok (.putfield 24, 3) := by decide +kernel
theorem dX3_init_42 : decode cX3_init 42 = .ok (.return_, 1) := by decide +kernel
set_option maxRecDepth 20000 in
theorem ggX3_make_X4_first : GoodIn wsX3_make wsX4_first := goodIn_r _ [13, 14, 15, 16, 59, 60, 61, 62, 63, 64, 65] (by decide +kernel) (by decide +kernel)
set_option maxRecDepth 20000 in
theorem gX3_make_X4_first : GoodIn wsX3_make (wsV RX3 33 RX4 yX4_first wsX4_first) := goodIn_app (goodIn_of _ (by decide +kernel)) ggX3_make_X4_first
set_option maxRecDepth 20000 in
theorem ggX3_make_X3_nextPlace : GoodIn wsX3_make wsX3_nextPlace := goodIn_r _ [21, 1, 22, 23, 24, 20, 25, 4, 2, 7, 26, 27, 28, 29, 30, 31, 32, 33, 34, 35, 12, 36, 15, 37, 38, 39, 40, 41, 42, 43, 44, 45, 46, 47, 48, 49, 50, 51, 52, 53, 54, 59, 60, 61, 62, 63, 64, 65] (by decide +kernel) (by decide +kernel)
set_option maxRecDepth 20000 in
theorem gX3_make_X3_nextPlace : GoodIn wsX3_make (wsV RX3 48 RX3 yX3_nextPlace wsX3_nextPlace) := goodIn_app (goodIn_of _ (by decide +kernel)) ggX3_make_X3_nextPlace
set_option maxRecDepth 20000 in
theorem ggX3_make_X3_mostWith : GoodIn wsX3_make wsX3_mostWith := goodIn_r _ [25, 4, 2, 7, 26, 27, 28, 29, 30, 31, 32, 33, 34, 35, 12, 36, 15, 37, 38, 39, 40, 41, 42, 43, 44, 45, 46, 47, 48, 49, 50, 51, 52, 53, 54, 59, 60, 61, 62, 63, 64, 65] (by decide +kernel) (by decide +kernel)
set_option maxRecDepth 20000 in
theorem gX3_make_X3_mostWith : GoodIn wsX3_make (wsV RX3 52 RX3 yX3_mostWith wsX3_mostWith) := goodIn_app (goodIn_of _ (by decide +kernel)) ggX3_make_X3_mostWith
theorem dX3_make_0 : decode cX3_make 0 = .ok (.aload_n 0, 1) := by decide +kernel
theorem dX3_make_1 : decode cX3_make 1 = .ok (.iload_n 3, 1) := by decide +kernel
theorem dX3_make_2 : decode cX3_make 2 = .ok (.putfield 24, 3) := by decide +kernel
theorem dX3_make_5 : decode cX3_make 5 = .ok (.iconst 0, 1) := by decide +kernel
theorem dX3_make_6 : decode cX3_make 6 = .ok (.istore 5, 2) := by decide +kernel
theorem dX3_make_8 : decode cX3_make 8 = .ok (.iload 5, 2) := by decide +kernel
theorem dX3_make_10 : decode cX3_make 10 = .ok (.iload_n 3, 1) := by decide +kernel
theorem dX3_make_11 : decode cX3_make 11 = .ok (.if_icmp .ge 59, 3) := by decide +kernel
theorem dX3_make_14 : decode cX3_make 14 = .ok (.aload_n 0, 1) := by decide +kernel
theorem dX3_make_15 : decode cX3_make 15 = .ok (.getfield 9, 3) := by decide +kernel
theorem dX3_make_18 : decode cX3_make 18 = .ok (.iload 5, 2) := by decide +kernel
theorem dX3_make_20 : decode cX3_make 20 = .ok (.aload_n 1, 1) := by decide +kernel
theorem dX3_make_21 : decode cX3_make 21 = .ok (.getfield 28, 3) := by decide +kernel
theorem dX3_make_24 : decode cX3_make 24 = .ok (.iload_n 2, 1) := by decide +kernel
theorem dX3_make_25 : decode cX3_make 25 = .ok (.iload 5, 2) := by decide +kernel
theorem dX3_make_27 : decode cX3_make 27 = .ok (.iadd, 1) := by decide +kernel
theorem dX3_make_28 : decode cX3_make 28 = .ok (.iaload, 1) := by decide +kernel
theorem dX3_make_29 : decode cX3_make 29 = .ok (.iastore, 1) := by decide +kernel
theorem dX3_make_30 : decode cX3_make 30 = .ok (.aload_n 0, 1) := by decide +kernel
theorem dX3_make_31 : decode cX3_make 31 = .ok (.getfield 15, 3) := by decide +kernel
theorem dX3_make_34 : decode cX3_make 34 = .ok (.iload 5, 2) := by decide +kernel
theorem dX3_make_36 : decode cX3_make 36 = .ok (.aload 4, 2) := by decide +kernel
theorem dX3_make_38 : decode cX3_make 38 = .ok (.invokevirtual 33, 3) := by decide +kernel
theorem dX3_make_41 : decode cX3_make 41 = .ok (.iastore, 1) := by decide +kernel
theorem dX3_make_42 : decode cX3_make 42 = .ok (.aload 4, 2) := by decide +kernel
theorem dX3_make_44 : decode cX3_make 44 = .ok (.getfield 39, 3) := by decide +kernel
theorem dX3_make_47 : decode cX3_make 47 = .ok (.aload_n 0, 1) := by decide +kernel
theorem dX3_make_48 : decode cX3_make 48 = .ok (.getfield 15, 3) := by decide +kernel
theorem dX3_make_51 : decode cX3_make 51 = .ok (.iload 5, 2) := by decide +kernel
theorem dX3_make_53 : decode cX3_make 53 = .ok (.iaload, 1) := by decide +kernel
theorem dX3_make_54 : decode cX3_make 54 = .ok (.aaload, 1) := by decide +kernel
theorem dX3_make_55 : decode cX3_make 55 = .ok (.dup, 1) := by decide +kernel
theorem dX3_make_56 : decode cX3_make 56 = .ok (.getfield 43, 3) := by decide +kernel
theorem dX3_make_59 : decode cX3_make 59 = .ok (.iconst 1, 1) := by decide +kernel
theorem dX3_make_60 : decode cX3_make 60 = .ok (.iadd, 1) := by decide +kernel
theorem dX3_make_61 : decode cX3_make 61 = .ok (.putfield 43, 3) := by decide +kernel
theorem dX3_make_64 : decode cX3_make 64 = .ok (.iinc 5 1, 3) := by decide +kernel
theorem dX3_make_67 : decode cX3_make 67 = .ok (.goto (-59), 3) := by decide +kernel
theorem dX3_make_70 : decode cX3_make 70 = .ok (.iconst 1, 1) := by decide +kernel
theorem dX3_make_71 : decode cX3_make 71 = .ok (.iload_n 3, 1) := by decide +kernel
theorem dX3_make_72 : decode cX3_make 72 = .ok (.ishl, 1) := by decide +kernel
theorem dX3_make_73 : decode cX3_make 73 = .ok (.iconst 1, 1) := by decide +kernel
theorem dX3_make_74 : decode cX3_make 74 = .ok (.isub, 1) := by decide +kernel
theorem dX3_make_75 : decode cX3_make 75 = .ok (.istore 5, 2) := by decide +kernel
theorem dX3_make_77 : decode cX3_make 77 = .ok (.aload_n 0, 1) := by decide +kernel
theorem dX3_make_78 : decode cX3_make 78 = .ok (.getfield 21, 3) := by decide +kernel
theorem dX3_make_81 : decode cX3_make 81 = .ok (.iload 5, 2) := by decide +kernel
theorem dX3_make_83 : decode cX3_make 83 = .ok (.iconst 0, 1) := by decide +kernel
theorem dX3_make_84 : decode cX3_make 84 = .ok (.iastore, 1) := by decide +kernel
theorem dX3_make_85 : decode cX3_make 85 = .ok (.iload 5, 2) := by decide +kernel
theorem dX3_make_87 : decode cX3_make 87 = .ok (.iconst 1, 1) := by decide +kernel
theorem dX3_make_88 : decode cX3_make 88 = .ok (.isub, 1) := by decide +kernel
theorem dX3_make_89 : decode cX3_make 89 = .ok (.istore 6, 2) := by decide +kernel
theorem dX3_make_91 : decode cX3_make 91 = .ok (.iload 6, 2) := by decide +kernel
theorem dX3_make_93 : decode cX3_make 93 = .ok (.ifCond .lt 32, 3) := by decide +kernel
theorem dX3_make_96 : decode cX3_make 96 = .ok (.aload_n 0, 1) := by decide +kernel
theorem dX3_make_97 : decode cX3_make 97 = .ok (.getfield 21, 3) := by decide +kernel
theorem dX3_make_100 : decode cX3_make 100 = .ok (.iload 6, 2) := by decide +kernel
theorem dX3_make_102 : decode cX3_make 102 = .ok (.aload_n 0, 1) := by decide +kernel
theorem dX3_make_103 : decode cX3_make 103 = .ok (.iload 6, 2) := by decide +kernel
theorem dX3_make_105 : decode cX3_make 105 = .ok (.aload_n 0, 1) := by decide +kernel
theorem dX3_make_106 : decode cX3_make 106 = .ok (.iload 6, 2) := by decide +kernel
theorem dX3_make_108 : decode cX3_make 108 = .ok (.aload 4, 2) := by decide +kernel
theorem dX3_make_110 : decode cX3_make 110 = .ok (.invokevirtual 48, 3) := by decide +kernel
theorem dX3_make_113 : decode cX3_make 113 = .ok (.aload 4, 2) := by decide +kernel
theorem dX3_make_115 : decode cX3_make 115 = .ok (.invokevirtual 52, 3) := by decide +kernel
theorem dX3_make_118 : decode cX3_make 118 = .ok (.iastore, 1) := by decide +kernel
theorem dX3_make_119 : decode cX3_make 119 = .ok (.iinc 6 (-1), 3) := by decide +kernel
theorem dX3_make_122 : decode cX3_make 122 = .ok (.goto (-31), 3) := by decide +kernel
theorem dX3_make_125 : decode cX3_make 125 = .ok (.iconst 0, 1) := by decide +kernel
theorem dX3_make_126 : decode cX3_make 126 = .ok (.istore 6, 2) := by decide +kernel
theorem dX3_make_128 : decode cX3_make 128 = .ok (.iconst 0, 1) := by decide +kernel
theorem dX3_make_129 : decode cX3_make 129 = .ok (.istore 7, 2) := by decide +kernel
theorem dX3_make_131 : decode cX3_make 131 = .ok (.iload 7, 2) := by decide +kernel
theorem dX3_make_133 : decode cX3_make 133 = .ok (.iload_n 3, 1) := by decide +kernel
theorem dX3_make_134 : decode cX3_make 134 = .ok (.if_icmp .ge 38, 3) := by decide +kernel
theorem dX3_make_137 : decode cX3_make 137 = .ok (.aload_n 0, 1) := by decide +kernel
theorem dX3_make_138 : decode cX3_make 138 = .ok (.getfield 18, 3) := by decide +kernel
theorem dX3_make_141 : decode cX3_make 141 = .ok (.iload 7, 2) := by decide +kernel
theorem dX3_make_143 : decode cX3_make 143 = .ok (.aload_n 0, 1) := by decide +kernel
theorem dX3_make_144 : decode cX3_make 144 = .ok (.iload 6, 2) := by decide +kernel
theorem dX3_make_146 : decode cX3_make 146 = .ok (.aload 4, 2) := by decide +kernel
theorem dX3_make_148 : decode cX3_make 148 = .ok (.invokevirtual 48, 3) := by decide +kernel
theorem dX3_make_151 : decode cX3_make 151 = .ok (.iastore, 1) := by decide +kernel
theorem dX3_make_152 : decode cX3_make 152 = .ok (.iload 6, 2) := by decide +kernel
theorem dX3_make_154 : decode cX3_make 154 = .ok (.iconst 1, 1) := by decide +kernel
theorem dX3_make_155 : decode cX3_make 155 = .ok (.aload_n 0, 1) := by decide +kernel
theorem dX3_make_156 : decode cX3_make 156 = .ok (.getfield 18, 3) := by decide +kernel
theorem dX3_make_159 : decode cX3_make 159 = .ok (.iload 7, 2) := by decide +kernel
theorem dX3_make_161 : decode cX3_make 161 = .ok (.iaload, 1) := by decide +kernel
theorem dX3_make_162 : decode cX3_make 162 = .ok (.ishl, 1) := by decide +kernel
theorem dX3_make_163 : decode cX3_make 163 = .ok (.ior, 1) := by decide +kernel
theorem dX3_make_164 : decode cX3_make 164 = .ok (.istore 6, 2) := by decide +kernel
theorem dX3_make_166 : decode cX3_make 166 = .ok (.iinc 7 1, 3) := by decide +kernel
theorem dX3_make_169 : decode cX3_make 169 = .ok (.goto (-38), 3) := by decide +kernel
theorem dX3_make_172 : decode cX3_make 172 = .ok (.return_, 1) := by decide +kernel
set_option maxRecDepth 20000 in
theorem ggX3_mostWith_J6_bitCount_0f7a4 : GoodIn wsX3_mostWith wsJ6_bitCount_0f7a4 := goodIn_r _ [7, 8, 9, 10] (by decide +kernel) (by decide +kernel)
set_option maxRecDepth 20000 in
theorem gX3_mostWith_J6_bitCount_0f7a4 : GoodIn wsX3_mostWith (va_wsS RX3 56 yJ6_bitCount_0f7a4 wsJ6_bitCount_0f7a4) := goodIn_app (goodIn_of _ (by decide +kernel)) ggX3_mostWith_J6_bitCount_0f7a4
set_option maxRecDepth 20000 in
theorem ggX3_mostWith_X4_bringing : GoodIn wsX3_mostWith wsX4_bringing := goodIn_r _ [15, 16, 17, 18, 19, 20, 21, 22, 23, 24, 25, 26, 27, 28, 29, 35, 36, 37, 38, 39, 40, 41] (by decide +kernel) (by decide +kernel)
set_option maxRecDepth 20000 in
theorem gX3_mostWith_X4_bringing : GoodIn wsX3_mostWith (wsV RX3 62 RX4 yX4_bringing wsX4_bringing) := goodIn_app (goodIn_of _ (by decide +kernel)) ggX3_mostWith_X4_bringing
theorem dX3_mostWith_0 : decode cX3_mostWith 0 = .ok (.iload_n 1, 1) := by decide +kernel
theorem dX3_mostWith_1 : decode cX3_mostWith 1 = .ok (.invokestatic 56, 3) := by decide +kernel
theorem dX3_mostWith_4 : decode cX3_mostWith 4 = .ok (.istore 4, 2) := by decide +kernel
theorem dX3_mostWith_6 : decode cX3_mostWith 6 = .ok (.aload_n 3, 1) := by decide +kernel
theorem dX3_mostWith_7 : decode cX3_mostWith 7 = .ok (.aload_n 0, 1) := by decide +kernel
theorem dX3_mostWith_8 : decode cX3_mostWith 8 = .ok (.getfield 15, 3) := by decide +kernel
theorem dX3_mostWith_11 : decode cX3_mostWith 11 = .ok (.iload 4, 2) := by decide +kernel
theorem dX3_mostWith_13 : decode cX3_mostWith 13 = .ok (.iaload, 1) := by decide +kernel
theorem dX3_mostWith_14 : decode cX3_mostWith 14 = .ok (.aload_n 0, 1) := by decide +kernel
theorem dX3_mostWith_15 : decode cX3_mostWith 15 = .ok (.getfield 9, 3) := by decide +kernel
theorem dX3_mostWith_18 : decode cX3_mostWith 18 = .ok (.iload_n 2, 1) := by decide +kernel
theorem dX3_mostWith_19 : decode cX3_mostWith 19 = .ok (.iaload, 1) := by decide +kernel
theorem dX3_mostWith_20 : decode cX3_mostWith 20 = .ok (.invokevirtual 62, 3) := by decide +kernel
theorem dX3_mostWith_23 : decode cX3_mostWith 23 = .ok (.aload_n 0, 1) := by decide +kernel
theorem dX3_mostWith_24 : decode cX3_mostWith 24 = .ok (.getfield 21, 3) := by decide +kernel
theorem dX3_mostWith_27 : decode cX3_mostWith 27 = .ok (.iload_n 1, 1) := by decide +kernel
theorem dX3_mostWith_28 : decode cX3_mostWith 28 = .ok (.iconst 1, 1) := by decide +kernel
theorem dX3_mostWith_29 : decode cX3_mostWith 29 = .ok (.iload_n 2, 1) := by decide +kernel
theorem dX3_mostWith_30 : decode cX3_mostWith 30 = .ok (.ishl, 1) := by decide +kernel
theorem dX3_mostWith_31 : decode cX3_mostWith 31 = .ok (.ior, 1) := by decide +kernel
theorem dX3_mostWith_32 : decode cX3_mostWith 32 = .ok (.iaload, 1) := by decide +kernel
theorem dX3_mostWith_33 : decode cX3_mostWith 33 = .ok (.iadd, 1) := by decide +kernel
theorem dX3_mostWith_34 : decode cX3_mostWith 34 = .ok (.ireturn, 1) := by decide +kernel
set_option maxRecDepth 20000 in
theorem ggX3_nextPlace_X3_mostWith : GoodIn wsX3_nextPlace wsX3_mostWith := goodIn_r _ [6, 7, 8, 9, 10, 11, 12, 13, 14, 15, 16, 17, 18, 19, 20, 21, 22, 23, 24, 25, 26, 27, 28, 29, 30, 31, 32, 33, 34, 35, 36, 37, 38, 39, 40, 41, 42, 43, 44, 45, 46, 47] (by decide +kernel) (by decide +kernel)
set_option maxRecDepth 20000 in
theorem gX3_nextPlace_X3_mostWith : GoodIn wsX3_nextPlace (wsV RX3 52 RX3 yX3_mostWith wsX3_mostWith) := goodIn_app (goodIn_of _ (by decide +kernel)) ggX3_nextPlace_X3_mostWith
theorem dX3_nextPlace_0 : decode cX3_nextPlace 0 = .ok (.iconst 0, 1) := by decide +kernel
theorem dX3_nextPlace_1 : decode cX3_nextPlace 1 = .ok (.istore_n 3, 1) := by decide +kernel
theorem dX3_nextPlace_2 : decode cX3_nextPlace 2 = .ok (.iconst (-1), 1) := by decide +kernel
theorem dX3_nextPlace_3 : decode cX3_nextPlace 3 = .ok (.istore 4, 2) := by decide +kernel
theorem dX3_nextPlace_5 : decode cX3_nextPlace 5 = .ok (.iconst 0, 1) := by decide +kernel
theorem dX3_nextPlace_6 : decode cX3_nextPlace 6 = .ok (.istore 5, 2) := by decide +kernel
theorem dX3_nextPlace_8 : decode cX3_nextPlace 8 = .ok (.iload 5, 2) := by decide +kernel
theorem dX3_nextPlace_10 : decode cX3_nextPlace 10 = .ok (.aload_n 0, 1) := by decide +kernel
theorem dX3_nextPlace_11 : decode cX3_nextPlace 11 = .ok (.getfield 24, 3) := by decide +kernel
theorem dX3_nextPlace_14 : decode cX3_nextPlace 14 = .ok (.if_icmp .ge 56, 3) := by decide +kernel
theorem dX3_nextPlace_17 : decode cX3_nextPlace 17 = .ok (.iload_n 1, 1) := by decide +kernel
theorem dX3_nextPlace_18 : decode cX3_nextPlace 18 = .ok (.iload 5, 2) := by decide +kernel
theorem dX3_nextPlace_20 : decode cX3_nextPlace 20 = .ok (.ishr, 1) := by decide +kernel
theorem dX3_nextPlace_21 : decode cX3_nextPlace 21 = .ok (.iconst 1, 1) := by decide +kernel
theorem dX3_nextPlace_22 : decode cX3_nextPlace 22 = .ok (.iand, 1) := by decide +kernel
theorem dX3_nextPlace_23 : decode cX3_nextPlace 23 = .ok (.ifCond .ne 7, 3) := by decide +kernel
theorem dX3_nextPlace_26 : decode cX3_nextPlace 26 = .ok (.iconst 1, 1) := by decide +kernel
theorem dX3_nextPlace_27 : decode cX3_nextPlace 27 = .ok (.goto 4, 3) := by decide +kernel
theorem dX3_nextPlace_30 : decode cX3_nextPlace 30 = .ok (.iconst 0, 1) := by decide +kernel
theorem dX3_nextPlace_31 : decode cX3_nextPlace 31 = .ok (.istore 6, 2) := by decide +kernel
theorem dX3_nextPlace_33 : decode cX3_nextPlace 33 = .ok (.iload 6, 2) := by decide +kernel
theorem dX3_nextPlace_35 : decode cX3_nextPlace 35 = .ok (.ifCond .eq 29, 3) := by decide +kernel
theorem dX3_nextPlace_38 : decode cX3_nextPlace 38 = .ok (.aload_n 0, 1) := by decide +kernel
theorem dX3_nextPlace_39 : decode cX3_nextPlace 39 = .ok (.iload_n 1, 1) := by decide +kernel
theorem dX3_nextPlace_40 : decode cX3_nextPlace 40 = .ok (.iload 5, 2) := by decide +kernel
theorem dX3_nextPlace_42 : decode cX3_nextPlace 42 = .ok (.aload_n 2, 1) := by decide +kernel
theorem dX3_nextPlace_43 : decode cX3_nextPlace 43 = .ok (.invokevirtual 52, 3) := by decide +kernel
theorem dX3_nextPlace_46 : decode cX3_nextPlace 46 = .ok (.iload 4, 2) := by decide +kernel
theorem dX3_nextPlace_48 : decode cX3_nextPlace 48 = .ok (.if_icmp .le 16, 3) := by decide +kernel
theorem dX3_nextPlace_51 : decode cX3_nextPlace 51 = .ok (.aload_n 0, 1) := by decide +kernel
theorem dX3_nextPlace_52 : decode cX3_nextPlace 52 = .ok (.iload_n 1, 1) := by decide +kernel
theorem dX3_nextPlace_53 : decode cX3_nextPlace 53 = .ok (.iload 5, 2) := by decide +kernel
theorem dX3_nextPlace_55 : decode cX3_nextPlace 55 = .ok (.aload_n 2, 1) := by decide +kernel
theorem dX3_nextPlace_56 : decode cX3_nextPlace 56 = .ok (.invokevirtual 52, 3) := by decide +kernel
theorem dX3_nextPlace_59 : decode cX3_nextPlace 59 = .ok (.istore 4, 2) := by decide +kernel
theorem dX3_nextPlace_61 : decode cX3_nextPlace 61 = .ok (.iload 5, 2) := by decide +kernel
theorem dX3_nextPlace_63 : decode cX3_nextPlace 63 = .ok (.istore_n 3, 1) := by decide +kernel
theorem dX3_nextPlace_64 : decode cX3_nextPlace 64 = .ok (.iinc 5 1, 3) := by decide +kernel
theorem dX3_nextPlace_67 : decode cX3_nextPlace 67 = .ok (.goto (-59), 3) := by decide +kernel
theorem dX3_nextPlace_70 : decode cX3_nextPlace 70 = .ok (.iload_n 3, 1) := by decide +kernel
theorem dX3_nextPlace_71 : decode cX3_nextPlace 71 = .ok (.ireturn, 1) := by decide +kernel
theorem dX3_answer_0 : decode cX3_answer 0 = .ok (.iload_n 1, 1) := by decide +kernel
theorem dX3_answer_1 : decode cX3_answer 1 = .ok (.iconst (-1), 1) := by decide +kernel
theorem dX3_answer_2 : decode cX3_answer 2 = .ok (.if_icmp .ne 10, 3) := by decide +kernel
theorem dX3_answer_5 : decode cX3_answer 5 = .ok (.aload_n 0, 1) := by decide +kernel
theorem dX3_answer_6 : decode cX3_answer 6 = .ok (.getfield 21, 3) := by decide +kernel
theorem dX3_answer_9 : decode cX3_answer 9 = .ok (.iconst 0, 1) := by decide +kernel
theorem dX3_answer_10 : decode cX3_answer 10 = .ok (.iaload, 1) := by decide +kernel
theorem dX3_answer_11 : decode cX3_answer 11 = .ok (.ireturn, 1) := by decide +kernel
theorem dX3_answer_12 : decode cX3_answer 12 = .ok (.iload_n 1, 1) := by decide +kernel
theorem dX3_answer_13 : decode cX3_answer 13 = .ok (.aload_n 0, 1) := by decide +kernel
theorem dX3_answer_14 : decode cX3_answer 14 = .ok (.getfield 24, 3) := by decide +kernel
theorem dX3_answer_17 : decode cX3_answer 17 = .ok (.if_icmp .ge 12, 3) := by decide +kernel
theorem dX3_answer_20 : decode cX3_answer 20 = .ok (.aload_n 0, 1) := by decide +kernel
theorem dX3_answer_21 : decode cX3_answer 21 = .ok (.getfield 18, 3) := by decide +kernel
theorem dX3_answer_24 : decode cX3_answer 24 = .ok (.iload_n 1, 1) := by decide +kernel
theorem dX3_answer_25 : decode cX3_answer 25 = .ok (.iaload, 1) := by decide +kernel
theorem dX3_answer_26 : decode cX3_answer 26 = .ok (.goto 5, 3) := by decide +kernel
theorem dX3_answer_29 : decode cX3_answer 29 = .ok (.bipush (-9), 2) := by decide +kernel
theorem dX3_answer_31 : decode cX3_answer 31 = .ok (.ireturn, 1) := by decide +kernel
set_option maxRecDepth 20000 in
theorem ggX4_init_X2_init : GoodIn wsX4_init wsX2_init := goodIn_r _ [12, 13, 2, 3, 14, 15, 16, 17, 21, 22, 23, 24] (by decide +kernel) (by decide +kernel)
set_option maxRecDepth 20000 in
theorem gX4_init_X2_init_n25 : GoodIn wsX4_init (wsX2_init) := ggX4_init_X2_init
theorem dX4_init_0 : decode cX4_init 0 = .ok (.aload_n 0, 1) := by decide +kernel
theorem dX4_init_1 : decode cX4_init 1 = .ok (.invokespecial 3, 3) := by decide +kernel
theorem dX4_init_4 : decode cX4_init 4 = .ok (.aload_n 0, 1) := by decide +kernel
theorem dX4_init_5 : decode cX4_init 5 = .ok (.iconst 3, 1) := by decide +kernel
theorem dX4_init_6 : decode cX4_init 6 = .ok (.newarray .int, 2) := by decide +kernel
theorem dX4_init_8 : decode cX4_init 8 = .ok (.putfield 9, 3) := by decide +kernel
theorem dX4_init_11 : decode cX4_init 11 = .ok (.aload_n 0, 1) := by decide +kernel
theorem dX4_init_12 : decode cX4_init 12 = .ok (.bipush 6, 2) := by decide +kernel
theorem dX4_init_14 : decode cX4_init 14 = .ok (.anewarray 15, 3) := by decide +kernel
theorem dX4_init_17 : decode cX4_init 17 = .ok (.putfield 17, 3) := by decide +kernel
theorem dX4_init_20 : decode cX4_init 20 = .ok (.aload_n 0, 1) := by decide +kernel
theorem dX4_init_21 : decode cX4_init 21 = .ok (.iconst 0, 1) := by decide +kernel
theorem dX4_init_22 : decode cX4_init 22 = .ok (.putfield 21, 3) := by decide +kernel
theorem dX4_init_25 : decode cX4_init 25 = .ok (.iconst 0, 1) := by decide +kernel
theorem dX4_init_26 : decode cX4_init 26 = .ok (.istore_n 1, 1) := by decide +kernel
theorem dX4_init_27 : decode cX4_init 27 = .ok (.iload_n 1, 1) := by decide +kernel
theorem dX4_init_28 : decode cX4_init 28 = .ok (.bipush 6, 2) := by decide +kernel
theorem dX4_init_30 : decode cX4_init 30 = .ok (.if_icmp .ge 22, 3) := by decide +kernel
theorem dX4_init_33 : decode cX4_init 33 = .ok (.aload_n 0, 1) := by decide +kernel
theorem dX4_init_34 : decode cX4_init 34 = .ok (.getfield 17, 3) := by decide +kernel
theorem dX4_init_37 : decode cX4_init 37 = .ok (.iload_n 1, 1) := by decide +kernel
theorem dX4_init_38 : decode cX4_init 38 = .ok (.new 15, 3) := by decide +kernel
theorem dX4_init_41 : decode cX4_init 41 = .ok (.dup, 1) := by decide +kernel
theorem dX4_init_42 : decode cX4_init 42 = .ok (.invokespecial 25, 3) := by decide +kernel
theorem dX4_init_45 : decode cX4_init 45 = .ok (.aastore, 1) := by decide +kernel
theorem dX4_init_46 : decode cX4_init 46 = .ok (.iinc 1 1, 3) := by decide +kernel
theorem dX4_init_49 : decode cX4_init 49 = .ok (.goto (-22), 3) := by decide +kernel
theorem dX4_init_52 : decode cX4_init 52 = .ok (.return_, 1) := by decide +kernel
set_option maxRecDepth 20000 in
theorem ggX4_becomeLike_X2_becomeLike : GoodIn wsX4_becomeLike wsX2_becomeLike := goodIn_r _ [12, 13, 14, 15, 16, 20, 21, 22, 23] (by decide +kernel) (by decide +kernel)
set_option maxRecDepth 20000 in
theorem gX4_becomeLike_X2_becomeLike : GoodIn wsX4_becomeLike (wsV RX4 32 RX2 yX2_becomeLike wsX2_becomeLike) := goodIn_app (goodIn_of _ (by decide +kernel)) ggX4_becomeLike_X2_becomeLike
theorem dX4_becomeLike_0 : decode cX4_becomeLike 0 = .ok (.aload_n 0, 1) := by decide +kernel
theorem dX4_becomeLike_1 : decode cX4_becomeLike 1 = .ok (.aload_n 1, 1) := by decide +kernel
theorem dX4_becomeLike_2 : decode cX4_becomeLike 2 = .ok (.getfield 21, 3) := by decide +kernel
theorem dX4_becomeLike_5 : decode cX4_becomeLike 5 = .ok (.putfield 21, 3) := by decide +kernel
theorem dX4_becomeLike_8 : decode cX4_becomeLike 8 = .ok (.aload_n 1, 1) := by decide +kernel
theorem dX4_becomeLike_9 : decode cX4_becomeLike 9 = .ok (.getfield 9, 3) := by decide +kernel
theorem dX4_becomeLike_12 : decode cX4_becomeLike 12 = .ok (.iconst 0, 1) := by decide +kernel
theorem dX4_becomeLike_13 : decode cX4_becomeLike 13 = .ok (.aload_n 0, 1) := by decide +kernel
theorem dX4_becomeLike_14 : decode cX4_becomeLike 14 = .ok (.getfield 9, 3) := by decide +kernel
theorem dX4_becomeLike_17 : decode cX4_becomeLike 17 = .ok (.iconst 0, 1) := by decide +kernel
theorem dX4_becomeLike_18 : decode cX4_becomeLike 18 = .ok (.iconst 3, 1) := by decide +kernel
theorem dX4_becomeLike_19 : decode cX4_becomeLike 19 = .ok (.invokestatic 26, 3) := by decide +kernel
theorem dX4_becomeLike_22 : decode cX4_becomeLike 22 = .ok (.iconst 0, 1) := by decide +kernel
theorem dX4_becomeLike_23 : decode cX4_becomeLike 23 = .ok (.istore_n 2, 1) := by decide +kernel
theorem dX4_becomeLike_24 : decode cX4_becomeLike 24 = .ok (.iload_n 2, 1) := by decide +kernel
theorem dX4_becomeLike_25 : decode cX4_becomeLike 25 = .ok (.bipush 6, 2) := by decide +kernel
theorem dX4_becomeLike_27 : decode cX4_becomeLike 27 = .ok (.if_icmp .ge 24, 3) := by decide +kernel
theorem dX4_becomeLike_30 : decode cX4_becomeLike 30 = .ok (.aload_n 0, 1) := by decide +kernel
theorem dX4_becomeLike_31 : decode cX4_becomeLike 31 = .ok (.getfield 17, 3) := by decide +kernel
theorem dX4_becomeLike_34 : decode cX4_becomeLike 34 = .ok (.iload_n 2, 1) := by decide +kernel
theorem dX4_becomeLike_35 : decode cX4_becomeLike 35 = .ok (.aaload, 1) := by decide +kernel
theorem dX4_becomeLike_36 : decode cX4_becomeLike 36 = .ok (.aload_n 1, 1) := by decide +kernel
theorem dX4_becomeLike_37 : decode cX4_becomeLike 37 = .ok (.getfield 17, 3) := by decide +kernel
theorem dX4_becomeLike_40 : decode cX4_becomeLike 40 = .ok (.iload_n 2, 1) := by decide +kernel
theorem dX4_becomeLike_41 : decode cX4_becomeLike 41 = .ok (.aaload, 1) := by decide +kernel
theorem dX4_becomeLike_42 : decode cX4_becomeLike 42 = .ok (.invokevirtual 32, 3) := by decide +kernel
theorem dX4_becomeLike_45 : decode cX4_becomeLike 45 = .ok (.iinc 2 1, 3) := by decide +kernel
theorem dX4_becomeLike_48 : decode cX4_becomeLike 48 = .ok (.goto (-24), 3) := by decide +kernel
theorem dX4_becomeLike_51 : decode cX4_becomeLike 51 = .ok (.return_, 1) := by decide +kernel
theorem dX4_suppose_0 : decode cX4_suppose 0 = .ok (.iload_n 1, 1) := by decide +kernel
theorem dX4_suppose_1 : decode cX4_suppose 1 = .ok (.tableswitch 66 0 2 #[27, 40, 53], 27) := by decide +kernel
theorem dX4_suppose_28 : decode cX4_suppose 28 = .ok (.aload_n 0, 1) := by decide +kernel
theorem dX4_suppose_29 : decode cX4_suppose 29 = .ok (.getfield 17, 3) := by decide +kernel
theorem dX4_suppose_32 : decode cX4_suppose 32 = .ok (.iload_n 2, 1) := by decide +kernel
theorem dX4_suppose_33 : decode cX4_suppose 33 = .ok (.aaload, 1) := by decide +kernel
theorem dX4_suppose_34 : decode cX4_suppose 34 = .ok (.iload_n 3, 1) := by decide +kernel
theorem dX4_suppose_35 : decode cX4_suppose 35 = .ok (.putfield 36, 3) := by decide +kernel
theorem dX4_suppose_38 : decode cX4_suppose 38 = .ok (.goto 36, 3) := by decide +kernel
theorem dX4_suppose_41 : decode cX4_suppose 41 = .ok (.aload_n 0, 1) := by decide +kernel
theorem dX4_suppose_42 : decode cX4_suppose 42 = .ok (.getfield 17, 3) := by decide +kernel
theorem dX4_suppose_45 : decode cX4_suppose 45 = .ok (.iload_n 2, 1) := by decide +kernel
theorem dX4_suppose_46 : decode cX4_suppose 46 = .ok (.aaload, 1) := by decide +kernel
theorem dX4_suppose_47 : decode cX4_suppose 47 = .ok (.iload_n 3, 1) := by decide +kernel
theorem dX4_suppose_48 : decode cX4_suppose 48 = .ok (.putfield 39, 3) := by decide +kernel
theorem dX4_suppose_51 : decode cX4_suppose 51 = .ok (.goto 23, 3) := by decide +kernel
theorem dX4_suppose_54 : decode cX4_suppose 54 = .ok (.aload_n 0, 1) := by decide +kernel
theorem dX4_suppose_55 : decode cX4_suppose 55 = .ok (.getfield 17, 3) := by decide +kernel
theorem dX4_suppose_58 : decode cX4_suppose 58 = .ok (.iload_n 2, 1) := by decide +kernel
theorem dX4_suppose_59 : decode cX4_suppose 59 = .ok (.aaload, 1) := by decide +kernel
theorem dX4_suppose_60 : decode cX4_suppose 60 = .ok (.iload_n 3, 1) := by decide +kernel
theorem dX4_suppose_61 : decode cX4_suppose 61 = .ok (.putfield 42, 3) := by decide +kernel
theorem dX4_suppose_64 : decode cX4_suppose 64 = .ok (.goto 10, 3) := by decide +kernel
theorem dX4_suppose_67 : decode cX4_suppose 67 = .ok (.aload_n 0, 1) := by decide +kernel
theorem dX4_suppose_68 : decode cX4_suppose 68 = .ok (.getfield 9, 3) := by decide +kernel
theorem dX4_suppose_71 : decode cX4_suppose 71 = .ok (.iload_n 2, 1) := by decide +kernel
theorem dX4_suppose_72 : decode cX4_suppose 72 = .ok (.iload_n 3, 1) := by decide +kernel
theorem dX4_suppose_73 : decode cX4_suppose 73 = .ok (.iastore, 1) := by decide +kernel
theorem dX4_suppose_74 : decode cX4_suppose 74 = .ok (.return_, 1) := by decide +kernel
set_option maxRecDepth 20000 in
theorem ggX4_hasPerson_X9_isBelow : GoodIn wsX4_hasPerson wsX9_isBelow := goodIn_r _ [4] (by decide +kernel) (by decide +kernel)
set_option maxRecDepth 20000 in
theorem gX4_hasPerson_X9_isBelow_n45 : GoodIn wsX4_hasPerson (wsX9_isBelow) := ggX4_hasPerson_X9_isBelow
theorem dX4_hasPerson_0 : decode cX4_hasPerson 0 = .ok (.iload_n 1, 1) := by decide +kernel
theorem dX4_hasPerson_1 : decode cX4_hasPerson 1 = .ok (.aload_n 0, 1) := by decide +kernel
theorem dX4_hasPerson_2 : decode cX4_hasPerson 2 = .ok (.getfield 21, 3) := by decide +kernel
theorem dX4_hasPerson_5 : decode cX4_hasPerson 5 = .ok (.invokestatic 45, 3) := by decide +kernel
theorem dX4_hasPerson_8 : decode cX4_hasPerson 8 = .ok (.ireturn, 1) := by decide +kernel
set_option maxRecDepth 20000 in
theorem ggX4_hasMatter_X9_isBelow : GoodIn wsX4_hasMatter wsX9_isBelow := goodIn_r _ [4] (by decide +kernel) (by decide +kernel)
set_option maxRecDepth 20000 in
theorem gX4_hasMatter_X9_isBelow_n45 : GoodIn wsX4_hasMatter (wsX9_isBelow) := ggX4_hasMatter_X9_isBelow
theorem dX4_hasMatter_0 : decode cX4_hasMatter 0 = .ok (.aload_n 0, 1) := by decide +kernel
theorem dX4_hasMatter_1 : decode cX4_hasMatter 1 = .ok (.getfield 21, 3) := by decide +kernel
theorem dX4_hasMatter_4 : decode cX4_hasMatter 4 = .ok (.ifCond .le 15, 3) := by decide +kernel
theorem dX4_hasMatter_7 : decode cX4_hasMatter 7 = .ok (.iload_n 1, 1) := by decide +kernel
theorem dX4_hasMatter_8 : decode cX4_hasMatter 8 = .ok (.iconst 3, 1) := by decide +kernel
theorem dX4_hasMatter_9 : decode cX4_hasMatter 9 = .ok (.invokestatic 45, 3) := by decide +kernel
theorem dX4_hasMatter_12 : decode cX4_hasMatter 12 = .ok (.ifCond .eq 7, 3) := by decide +kernel
theorem dX4_hasMatter_15 : decode cX4_hasMatter 15 = .ok (.iconst 1, 1) := by decide +kernel
theorem dX4_hasMatter_16 : decode cX4_hasMatter 16 = .ok (.goto 4, 3) := by decide +kernel
theorem dX4_hasMatter_19 : decode cX4_hasMatter 19 = .ok (.iconst 0, 1) := by decide +kernel
theorem dX4_hasMatter_20 : decode cX4_hasMatter 20 = .ok (.ireturn, 1) := by decide +kernel
set_option maxRecDepth 20000 in
theorem ggX4_bringing_X2_saying : GoodIn wsX4_bringing wsX2_saying := goodIn_r _ [7, 8, 9, 18, 19, 20, 21] (by decide +kernel) (by decide +kernel)
set_option maxRecDepth 20000 in
theorem gX4_bringing_X2_saying : GoodIn wsX4_bringing (wsV RX4 49 RX2 yX2_saying wsX2_saying) := goodIn_app (goodIn_of _ (by decide +kernel)) ggX4_bringing_X2_saying
set_option maxRecDepth 20000 in
theorem ggX4_bringing_X2_isKnowing : GoodIn wsX4_bringing wsX2_isKnowing := goodIn_r _ [13, 14, 18, 19, 20, 21] (by decide +kernel) (by decide +kernel)
set_option maxRecDepth 20000 in
theorem gX4_bringing_X2_isKnowing : GoodIn wsX4_bringing (wsV RX4 53 RX2 yX2_isKnowing wsX2_isKnowing) := goodIn_app (goodIn_of _ (by decide +kernel)) ggX4_bringing_X2_isKnowing
theorem dX4_bringing_0 : decode cX4_bringing 0 = .ok (.aload_n 0, 1) := by decide +kernel
theorem dX4_bringing_1 : decode cX4_bringing 1 = .ok (.getfield 17, 3) := by decide +kernel
theorem dX4_bringing_4 : decode cX4_bringing 4 = .ok (.iload_n 1, 1) := by decide +kernel
theorem dX4_bringing_5 : decode cX4_bringing 5 = .ok (.aaload, 1) := by decide +kernel
theorem dX4_bringing_6 : decode cX4_bringing 6 = .ok (.invokevirtual 49, 3) := by decide +kernel
theorem dX4_bringing_9 : decode cX4_bringing 9 = .ok (.istore_n 3, 1) := by decide +kernel
theorem dX4_bringing_10 : decode cX4_bringing 10 = .ok (.aload_n 0, 1) := by decide +kernel
theorem dX4_bringing_11 : decode cX4_bringing 11 = .ok (.getfield 17, 3) := by decide +kernel
theorem dX4_bringing_14 : decode cX4_bringing 14 = .ok (.iload_n 1, 1) := by decide +kernel
theorem dX4_bringing_15 : decode cX4_bringing 15 = .ok (.aaload, 1) := by decide +kernel
theorem dX4_bringing_16 : decode cX4_bringing 16 = .ok (.iload_n 2, 1) := by decide +kernel
theorem dX4_bringing_17 : decode cX4_bringing 17 = .ok (.invokevirtual 53, 3) := by decide +kernel
theorem dX4_bringing_20 : decode cX4_bringing 20 = .ok (.ifCond .eq 14, 3) := by decide +kernel
theorem dX4_bringing_23 : decode cX4_bringing 23 = .ok (.iload_n 3, 1) := by decide +kernel
theorem dX4_bringing_24 : decode cX4_bringing 24 = .ok (.aload_n 0, 1) := by decide +kernel
theorem dX4_bringing_25 : decode cX4_bringing 25 = .ok (.getfield 9, 3) := by decide +kernel
theorem dX4_bringing_28 : decode cX4_bringing 28 = .ok (.iload_n 2, 1) := by decide +kernel
theorem dX4_bringing_29 : decode cX4_bringing 29 = .ok (.iaload, 1) := by decide +kernel
theorem dX4_bringing_30 : decode cX4_bringing 30 = .ok (.imul, 1) := by decide +kernel
theorem dX4_bringing_31 : decode cX4_bringing 31 = .ok (.goto 4, 3) := by decide +kernel
theorem dX4_bringing_34 : decode cX4_bringing 34 = .ok (.iload_n 3, 1) := by decide +kernel
theorem dX4_bringing_35 : decode cX4_bringing 35 = .ok (.ireturn, 1) := by decide +kernel
theorem dX4_first_0 : decode cX4_first 0 = .ok (.iconst 0, 1) := by decide +kernel
theorem dX4_first_1 : decode cX4_first 1 = .ok (.istore_n 1, 1) := by decide +kernel
theorem dX4_first_2 : decode cX4_first 2 = .ok (.iconst 1, 1) := by decide +kernel
theorem dX4_first_3 : decode cX4_first 3 = .ok (.istore_n 2, 1) := by decide +kernel
theorem dX4_first_4 : decode cX4_first 4 = .ok (.iload_n 2, 1) := by decide +kernel
theorem dX4_first_5 : decode cX4_first 5 = .ok (.aload_n 0, 1) := by decide +kernel
theorem dX4_first_6 : decode cX4_first 6 = .ok (.getfield 21, 3) := by decide +kernel
theorem dX4_first_9 : decode cX4_first 9 = .ok (.if_icmp .ge 32, 3) := by decide +kernel
theorem dX4_first_12 : decode cX4_first 12 = .ok (.aload_n 0, 1) := by decide +kernel
theorem dX4_first_13 : decode cX4_first 13 = .ok (.getfield 17, 3) := by decide +kernel
theorem dX4_first_16 : decode cX4_first 16 = .ok (.iload_n 2, 1) := by decide +kernel
theorem dX4_first_17 : decode cX4_first 17 = .ok (.aaload, 1) := by decide +kernel
theorem dX4_first_18 : decode cX4_first 18 = .ok (.getfield 57, 3) := by decide +kernel
theorem dX4_first_21 : decode cX4_first 21 = .ok (.aload_n 0, 1) := by decide +kernel
theorem dX4_first_22 : decode cX4_first 22 = .ok (.getfield 17, 3) := by decide +kernel
theorem dX4_first_25 : decode cX4_first 25 = .ok (.iload_n 1, 1) := by decide +kernel
theorem dX4_first_26 : decode cX4_first 26 = .ok (.aaload, 1) := by decide +kernel
theorem dX4_first_27 : decode cX4_first 27 = .ok (.getfield 57, 3) := by decide +kernel
theorem dX4_first_30 : decode cX4_first 30 = .ok (.if_icmp .ge 5, 3) := by decide +kernel
theorem dX4_first_33 : decode cX4_first 33 = .ok (.iload_n 2, 1) := by decide +kernel
theorem dX4_first_34 : decode cX4_first 34 = .ok (.istore_n 1, 1) := by decide +kernel
theorem dX4_first_35 : decode cX4_first 35 = .ok (.iinc 2 1, 3) := by decide +kernel
theorem dX4_first_38 : decode cX4_first 38 = .ok (.goto (-34), 3) := by decide +kernel
theorem dX4_first_41 : decode cX4_first 41 = .ok (.iload_n 1, 1) := by decide +kernel
theorem dX4_first_42 : decode cX4_first 42 = .ok (.ireturn, 1) := by decide +kernel
set_option maxRecDepth 20000 in
theorem ggX4_placeOf_X4_timesAhead : GoodIn wsX4_placeOf wsX4_timesAhead := goodIn_r _ [6, 7, 8, 9, 10, 11, 12, 13, 14, 15, 16, 17, 18, 19] (by decide +kernel) (by decide +kernel)
set_option maxRecDepth 20000 in
theorem gX4_placeOf_X4_timesAhead : GoodIn wsX4_placeOf (wsV RX4 60 RX4 yX4_timesAhead wsX4_timesAhead) := goodIn_app (goodIn_of _ (by decide +kernel)) ggX4_placeOf_X4_timesAhead
theorem dX4_placeOf_0 : decode cX4_placeOf 0 = .ok (.iconst 0, 1) := by decide +kernel
theorem dX4_placeOf_1 : decode cX4_placeOf 1 = .ok (.istore_n 2, 1) := by decide +kernel
theorem dX4_placeOf_2 : decode cX4_placeOf 2 = .ok (.iconst 0, 1) := by decide +kernel
theorem dX4_placeOf_3 : decode cX4_placeOf 3 = .ok (.istore_n 3, 1) := by decide +kernel
theorem dX4_placeOf_4 : decode cX4_placeOf 4 = .ok (.iload_n 3, 1) := by decide +kernel
theorem dX4_placeOf_5 : decode cX4_placeOf 5 = .ok (.aload_n 0, 1) := by decide +kernel
theorem dX4_placeOf_6 : decode cX4_placeOf 6 = .ok (.getfield 21, 3) := by decide +kernel
theorem dX4_placeOf_9 : decode cX4_placeOf 9 = .ok (.if_icmp .ge 21, 3) := by decide +kernel
theorem dX4_placeOf_12 : decode cX4_placeOf 12 = .ok (.aload_n 0, 1) := by decide +kernel
theorem dX4_placeOf_13 : decode cX4_placeOf 13 = .ok (.iload_n 3, 1) := by decide +kernel
theorem dX4_placeOf_14 : decode cX4_placeOf 14 = .ok (.iload_n 1, 1) := by decide +kernel
theorem dX4_placeOf_15 : decode cX4_placeOf 15 = .ok (.invokevirtual 60, 3) := by decide +kernel
theorem dX4_placeOf_18 : decode cX4_placeOf 18 = .ok (.ifCond .le 6, 3) := by decide +kernel
theorem dX4_placeOf_21 : decode cX4_placeOf 21 = .ok (.iinc 2 1, 3) := by decide +kernel
theorem dX4_placeOf_24 : decode cX4_placeOf 24 = .ok (.iinc 3 1, 3) := by decide +kernel
theorem dX4_placeOf_27 : decode cX4_placeOf 27 = .ok (.goto (-23), 3) := by decide +kernel
theorem dX4_placeOf_30 : decode cX4_placeOf 30 = .ok (.iload_n 2, 1) := by decide +kernel
theorem dX4_placeOf_31 : decode cX4_placeOf 31 = .ok (.ireturn, 1) := by decide +kernel
set_option maxRecDepth 20000 in
theorem ggX4_atPlace_X4_placeOf : GoodIn wsX4_atPlace wsX4_placeOf := goodIn_r _ [6, 1, 7, 8, 9, 5, 10, 11, 12, 13, 14, 15, 16, 17, 18, 19, 20, 21, 22, 23] (by decide +kernel) (by decide +kernel)
set_option maxRecDepth 20000 in
theorem gX4_atPlace_X4_placeOf : GoodIn wsX4_atPlace (wsV RX4 64 RX4 yX4_placeOf wsX4_placeOf) := goodIn_app (goodIn_of _ (by decide +kernel)) ggX4_atPlace_X4_placeOf
theorem dX4_atPlace_0 : decode cX4_atPlace 0 = .ok (.iconst 0, 1) := by decide +kernel
theorem dX4_atPlace_1 : decode cX4_atPlace 1 = .ok (.istore_n 2, 1) := by decide +kernel
theorem dX4_atPlace_2 : decode cX4_atPlace 2 = .ok (.iload_n 2, 1) := by decide +kernel
theorem dX4_atPlace_3 : decode cX4_atPlace 3 = .ok (.aload_n 0, 1) := by decide +kernel
theorem dX4_atPlace_4 : decode cX4_atPlace 4 = .ok (.getfield 21, 3) := by decide +kernel
theorem dX4_atPlace_7 : decode cX4_atPlace 7 = .ok (.if_icmp .ge 20, 3) := by decide +kernel
theorem dX4_atPlace_10 : decode cX4_atPlace 10 = .ok (.aload_n 0, 1) := by decide +kernel
theorem dX4_atPlace_11 : decode cX4_atPlace 11 = .ok (.iload_n 2, 1) := by decide +kernel
theorem dX4_atPlace_12 : decode cX4_atPlace 12 = .ok (.invokevirtual 64, 3) := by decide +kernel
theorem dX4_atPlace_15 : decode cX4_atPlace 15 = .ok (.iload_n 1, 1) := by decide +kernel
theorem dX4_atPlace_16 : decode cX4_atPlace 16 = .ok (.if_icmp .ne 5, 3) := by decide +kernel
theorem dX4_atPlace_19 : decode cX4_atPlace 19 = .ok (.iload_n 2, 1) := by decide +kernel
theorem dX4_atPlace_20 : decode cX4_atPlace 20 = .ok (.ireturn, 1) := by decide +kernel
theorem dX4_atPlace_21 : decode cX4_atPlace 21 = .ok (.iinc 2 1, 3) := by decide +kernel
theorem dX4_atPlace_24 : decode cX4_atPlace 24 = .ok (.goto (-22), 3) := by decide +kernel
theorem dX4_atPlace_27 : decode cX4_atPlace 27 = .ok (.bipush (-9), 2) := by decide +kernel
theorem dX4_atPlace_29 : decode cX4_atPlace 29 = .ok (.ireturn, 1) := by decide +kernel
theorem dX4_timesAhead_0 : decode cX4_timesAhead 0 = .ok (.aload_n 0, 1) := by decide +kernel
theorem dX4_timesAhead_1 : decode cX4_timesAhead 1 = .ok (.getfield 17, 3) := by decide +kernel
theorem dX4_timesAhead_4 : decode cX4_timesAhead 4 = .ok (.iload_n 2, 1) := by decide +kernel
theorem dX4_timesAhead_5 : decode cX4_timesAhead 5 = .ok (.aaload, 1) := by decide +kernel
theorem dX4_timesAhead_6 : decode cX4_timesAhead 6 = .ok (.getfield 57, 3) := by decide +kernel
theorem dX4_timesAhead_9 : decode cX4_timesAhead 9 = .ok (.iload_n 1, 1) := by decide +kernel
theorem dX4_timesAhead_10 : decode cX4_timesAhead 10 = .ok (.iload_n 2, 1) := by decide +kernel
theorem dX4_timesAhead_11 : decode cX4_timesAhead 11 = .ok (.if_icmp .ge 7, 3) := by decide +kernel
theorem dX4_timesAhead_14 : decode cX4_timesAhead 14 = .ok (.iconst 1, 1) := by decide +kernel
theorem dX4_timesAhead_15 : decode cX4_timesAhead 15 = .ok (.goto 4, 3) := by decide +kernel
theorem dX4_timesAhead_18 : decode cX4_timesAhead 18 = .ok (.iconst 0, 1) := by decide +kernel
theorem dX4_timesAhead_19 : decode cX4_timesAhead 19 = .ok (.iadd, 1) := by decide +kernel
theorem dX4_timesAhead_20 : decode cX4_timesAhead 20 = .ok (.istore_n 3, 1) := by decide +kernel
theorem dX4_timesAhead_21 : decode cX4_timesAhead 21 = .ok (.iconst 0, 1) := by decide +kernel
theorem dX4_timesAhead_22 : decode cX4_timesAhead 22 = .ok (.iload_n 3, 1) := by decide +kernel
theorem dX4_timesAhead_23 : decode cX4_timesAhead 23 = .ok (.aload_n 0, 1) := by decide +kernel
theorem dX4_timesAhead_24 : decode cX4_timesAhead 24 = .ok (.getfield 17, 3) := by decide +kernel
theorem dX4_timesAhead_27 : decode cX4_timesAhead 27 = .ok (.iload_n 1, 1) := by decide +kernel
theorem dX4_timesAhead_28 : decode cX4_timesAhead 28 = .ok (.aaload, 1) := by decide +kernel
theorem dX4_timesAhead_29 : decode cX4_timesAhead 29 = .ok (.getfield 57, 3) := by decide +kernel
theorem dX4_timesAhead_32 : decode cX4_timesAhead 32 = .ok (.isub, 1) := by decide +kernel
theorem dX4_timesAhead_33 : decode cX4_timesAhead 33 = .ok (.invokestatic 68, 3) := by decide +kernel
theorem dX4_timesAhead_36 : decode cX4_timesAhead 36 = .ok (.ireturn, 1) := by decide +kernel
set_option maxRecDepth 20000 in
theorem ggX4_questionsAheadOf_X4_timesAhead : GoodIn wsX4_questionsAheadOf wsX4_timesAhead := goodIn_r _ [6, 7, 8, 9, 10, 11, 12, 13, 14, 15, 16, 17, 18, 19] (by decide +kernel) (by decide +kernel)
set_option maxRecDepth 20000 in
theorem gX4_questionsAheadOf_X4_timesAhead : GoodIn wsX4_questionsAheadOf (wsV RX4 60 RX4 yX4_timesAhead wsX4_timesAhead) := goodIn_app (goodIn_of _ (by decide +kernel)) ggX4_questionsAheadOf_X4_timesAhead
theorem dX4_questionsAheadOf_0 : decode cX4_questionsAheadOf 0 = .ok (.iconst 0, 1) := by decide +kernel
theorem dX4_questionsAheadOf_1 : decode cX4_questionsAheadOf 1 = .ok (.istore_n 2, 1) := by decide +kernel
theorem dX4_questionsAheadOf_2 : decode cX4_questionsAheadOf 2 = .ok (.iconst 0, 1) := by decide +kernel
theorem dX4_questionsAheadOf_3 : decode cX4_questionsAheadOf 3 = .ok (.istore_n 3, 1) := by decide +kernel
theorem dX4_questionsAheadOf_4 : decode cX4_questionsAheadOf 4 = .ok (.iload_n 3, 1) := by decide +kernel
theorem dX4_questionsAheadOf_5 : decode cX4_questionsAheadOf 5 = .ok (.aload_n 0, 1) := by decide +kernel
theorem dX4_questionsAheadOf_6 : decode cX4_questionsAheadOf 6 = .ok (.getfield 21, 3) := by decide +kernel
theorem dX4_questionsAheadOf_9 : decode cX4_questionsAheadOf 9 = .ok (.if_icmp .ge 18, 3) := by decide +kernel
theorem dX4_questionsAheadOf_12 : decode cX4_questionsAheadOf 12 = .ok (.iload_n 2, 1) := by decide +kernel
theorem dX4_questionsAheadOf_13 : decode cX4_questionsAheadOf 13 = .ok (.aload_n 0, 1) := by decide +kernel
theorem dX4_questionsAheadOf_14 : decode cX4_questionsAheadOf 14 = .ok (.iload_n 3, 1) := by decide +kernel
theorem dX4_questionsAheadOf_15 : decode cX4_questionsAheadOf 15 = .ok (.iload_n 1, 1) := by decide +kernel
theorem dX4_questionsAheadOf_16 : decode cX4_questionsAheadOf 16 = .ok (.invokevirtual 60, 3) := by decide +kernel
theorem dX4_questionsAheadOf_19 : decode cX4_questionsAheadOf 19 = .ok (.iadd, 1) := by decide +kernel
theorem dX4_questionsAheadOf_20 : decode cX4_questionsAheadOf 20 = .ok (.istore_n 2, 1) := by decide +kernel
theorem dX4_questionsAheadOf_21 : decode cX4_questionsAheadOf 21 = .ok (.iinc 3 1, 3) := by decide +kernel
theorem dX4_questionsAheadOf_24 : decode cX4_questionsAheadOf 24 = .ok (.goto (-20), 3) := by decide +kernel
theorem dX4_questionsAheadOf_27 : decode cX4_questionsAheadOf 27 = .ok (.iload_n 2, 1) := by decide +kernel
theorem dX4_questionsAheadOf_28 : decode cX4_questionsAheadOf 28 = .ok (.ireturn, 1) := by decide +kernel
set_option maxRecDepth 20000 in
theorem ggX4_feintsTillKnown_X2_isKnowing : GoodIn wsX4_feintsTillKnown wsX2_isKnowing := goodIn_r _ [11, 12, 29, 30, 31, 32] (by decide +kernel) (by decide +kernel)
set_option maxRecDepth 20000 in
theorem gX4_feintsTillKnown_X2_isKnowing : GoodIn wsX4_feintsTillKnown (wsV RX4 53 RX2 yX2_isKnowing wsX2_isKnowing) := goodIn_app (goodIn_of _ (by decide +kernel)) ggX4_feintsTillKnown_X2_isKnowing
set_option maxRecDepth 20000 in
theorem ggX4_feintsTillKnown_X4_questionsAheadOf : GoodIn wsX4_feintsTillKnown wsX4_questionsAheadOf := goodIn_r _ [17, 1, 18, 19, 20, 16, 21, 2, 22, 23, 24, 5, 25, 26, 27, 28, 29, 30, 31, 32] (by decide +kernel) (by decide +kernel)
set_option maxRecDepth 20000 in
theorem gX4_feintsTillKnown_X4_questionsAheadOf : GoodIn wsX4_feintsTillKnown (wsV RX4 73 RX4 yX4_questionsAheadOf wsX4_questionsAheadOf) := goodIn_app (goodIn_of _ (by decide +kernel)) ggX4_feintsTillKnown_X4_questionsAheadOf
theorem dX4_feintsTillKnown_0 : decode cX4_feintsTillKnown 0 = .ok (.bipush (-9), 2) := by decide +kernel
theorem dX4_feintsTillKnown_2 : decode cX4_feintsTillKnown 2 = .ok (.istore_n 2, 1) := by decide +kernel
theorem dX4_feintsTillKnown_3 : decode cX4_feintsTillKnown 3 = .ok (.iconst 0, 1) := by decide +kernel
theorem dX4_feintsTillKnown_4 : decode cX4_feintsTillKnown 4 = .ok (.istore_n 3, 1) := by decide +kernel
theorem dX4_feintsTillKnown_5 : decode cX4_feintsTillKnown 5 = .ok (.iload_n 3, 1) := by decide +kernel
theorem dX4_feintsTillKnown_6 : decode cX4_feintsTillKnown 6 = .ok (.aload_n 0, 1) := by decide +kernel
theorem dX4_feintsTillKnown_7 : decode cX4_feintsTillKnown 7 = .ok (.getfield 21, 3) := by decide +kernel
theorem dX4_feintsTillKnown_10 : decode cX4_feintsTillKnown 10 = .ok (.if_icmp .ge 47, 3) := by decide +kernel
theorem dX4_feintsTillKnown_13 : decode cX4_feintsTillKnown 13 = .ok (.aload_n 0, 1) := by decide +kernel
theorem dX4_feintsTillKnown_14 : decode cX4_feintsTillKnown 14 = .ok (.getfield 17, 3) := by decide +kernel
theorem dX4_feintsTillKnown_17 : decode cX4_feintsTillKnown 17 = .ok (.iload_n 3, 1) := by decide +kernel
theorem dX4_feintsTillKnown_18 : decode cX4_feintsTillKnown 18 = .ok (.aaload, 1) := by decide +kernel
theorem dX4_feintsTillKnown_19 : decode cX4_feintsTillKnown 19 = .ok (.iload_n 1, 1) := by decide +kernel
theorem dX4_feintsTillKnown_20 : decode cX4_feintsTillKnown 20 = .ok (.invokevirtual 53, 3) := by decide +kernel
theorem dX4_feintsTillKnown_23 : decode cX4_feintsTillKnown 23 = .ok (.ifCond .eq 28, 3) := by decide +kernel
theorem dX4_feintsTillKnown_26 : decode cX4_feintsTillKnown 26 = .ok (.aload_n 0, 1) := by decide +kernel
theorem dX4_feintsTillKnown_27 : decode cX4_feintsTillKnown 27 = .ok (.iload_n 3, 1) := by decide +kernel
theorem dX4_feintsTillKnown_28 : decode cX4_feintsTillKnown 28 = .ok (.invokevirtual 73, 3) := by decide +kernel
theorem dX4_feintsTillKnown_31 : decode cX4_feintsTillKnown 31 = .ok (.istore 4, 2) := by decide +kernel
theorem dX4_feintsTillKnown_33 : decode cX4_feintsTillKnown 33 = .ok (.iload_n 2, 1) := by decide +kernel
theorem dX4_feintsTillKnown_34 : decode cX4_feintsTillKnown 34 = .ok (.bipush (-9), 2) := by decide +kernel
theorem dX4_feintsTillKnown_36 : decode cX4_feintsTillKnown 36 = .ok (.if_icmp .ne 8, 3) := by decide +kernel
theorem dX4_feintsTillKnown_39 : decode cX4_feintsTillKnown 39 = .ok (.iload 4, 2) := by decide +kernel
theorem dX4_feintsTillKnown_41 : decode cX4_feintsTillKnown 41 = .ok (.goto 9, 3) := by decide +kernel
theorem dX4_feintsTillKnown_44 : decode cX4_feintsTillKnown 44 = .ok (.iload_n 2, 1) := by decide +kernel
theorem dX4_feintsTillKnown_45 : decode cX4_feintsTillKnown 45 = .ok (.iload 4, 2) := by decide +kernel
theorem dX4_feintsTillKnown_47 : decode cX4_feintsTillKnown 47 = .ok (.invokestatic 76, 3) := by decide +kernel
theorem dX4_feintsTillKnown_50 : decode cX4_feintsTillKnown 50 = .ok (.istore_n 2, 1) := by decide +kernel
theorem dX4_feintsTillKnown_51 : decode cX4_feintsTillKnown 51 = .ok (.iinc 3 1, 3) := by decide +kernel
theorem dX4_feintsTillKnown_54 : decode cX4_feintsTillKnown 54 = .ok (.goto (-49), 3) := by decide +kernel
theorem dX4_feintsTillKnown_57 : decode cX4_feintsTillKnown 57 = .ok (.iload_n 2, 1) := by decide +kernel
theorem dX4_feintsTillKnown_58 : decode cX4_feintsTillKnown 58 = .ok (.ireturn, 1) := by decide +kernel
theorem dX4_questionsTillEven_0 : decode cX4_questionsTillEven 0 = .ok (.iconst 0, 1) := by decide +kernel
theorem dX4_questionsTillEven_1 : decode cX4_questionsTillEven 1 = .ok (.istore_n 1, 1) := by decide +kernel
theorem dX4_questionsTillEven_2 : decode cX4_questionsTillEven 2 = .ok (.iconst 0, 1) := by decide +kernel
theorem dX4_questionsTillEven_3 : decode cX4_questionsTillEven 3 = .ok (.istore_n 2, 1) := by decide +kernel
theorem dX4_questionsTillEven_4 : decode cX4_questionsTillEven 4 = .ok (.iconst 0, 1) := by decide +kernel
theorem dX4_questionsTillEven_5 : decode cX4_questionsTillEven 5 = .ok (.istore_n 3, 1) := by decide +kernel
theorem dX4_questionsTillEven_6 : decode cX4_questionsTillEven 6 = .ok (.iload_n 3, 1) := by decide +kernel
theorem dX4_questionsTillEven_7 : decode cX4_questionsTillEven 7 = .ok (.aload_n 0, 1) := by decide +kernel
theorem dX4_questionsTillEven_8 : decode cX4_questionsTillEven 8 = .ok (.getfield 21, 3) := by decide +kernel
theorem dX4_questionsTillEven_11 : decode cX4_questionsTillEven 11 = .ok (.if_icmp .ge 35, 3) := by decide +kernel
theorem dX4_questionsTillEven_14 : decode cX4_questionsTillEven 14 = .ok (.iload_n 1, 1) := by decide +kernel
theorem dX4_questionsTillEven_15 : decode cX4_questionsTillEven 15 = .ok (.aload_n 0, 1) := by decide +kernel
theorem dX4_questionsTillEven_16 : decode cX4_questionsTillEven 16 = .ok (.getfield 17, 3) := by decide +kernel
theorem dX4_questionsTillEven_19 : decode cX4_questionsTillEven 19 = .ok (.iload_n 3, 1) := by decide +kernel
theorem dX4_questionsTillEven_20 : decode cX4_questionsTillEven 20 = .ok (.aaload, 1) := by decide +kernel
theorem dX4_questionsTillEven_21 : decode cX4_questionsTillEven 21 = .ok (.getfield 57, 3) := by decide +kernel
theorem dX4_questionsTillEven_24 : decode cX4_questionsTillEven 24 = .ok (.invokestatic 68, 3) := by decide +kernel
theorem dX4_questionsTillEven_27 : decode cX4_questionsTillEven 27 = .ok (.istore_n 1, 1) := by decide +kernel
theorem dX4_questionsTillEven_28 : decode cX4_questionsTillEven 28 = .ok (.iload_n 2, 1) := by decide +kernel
theorem dX4_questionsTillEven_29 : decode cX4_questionsTillEven 29 = .ok (.aload_n 0, 1) := by decide +kernel
theorem dX4_questionsTillEven_30 : decode cX4_questionsTillEven 30 = .ok (.getfield 17, 3) := by decide +kernel
theorem dX4_questionsTillEven_33 : decode cX4_questionsTillEven 33 = .ok (.iload_n 3, 1) := by decide +kernel
theorem dX4_questionsTillEven_34 : decode cX4_questionsTillEven 34 = .ok (.aaload, 1) := by decide +kernel
theorem dX4_questionsTillEven_35 : decode cX4_questionsTillEven 35 = .ok (.getfield 57, 3) := by decide +kernel
theorem dX4_questionsTillEven_38 : decode cX4_questionsTillEven 38 = .ok (.iadd, 1) := by decide +kernel
theorem dX4_questionsTillEven_39 : decode cX4_questionsTillEven 39 = .ok (.istore_n 2, 1) := by decide +kernel
theorem dX4_questionsTillEven_40 : decode cX4_questionsTillEven 40 = .ok (.iinc 3 1, 3) := by decide +kernel
theorem dX4_questionsTillEven_43 : decode cX4_questionsTillEven 43 = .ok (.goto (-37), 3) := by decide +kernel
theorem dX4_questionsTillEven_46 : decode cX4_questionsTillEven 46 = .ok (.iload_n 1, 1) := by decide +kernel
theorem dX4_questionsTillEven_47 : decode cX4_questionsTillEven 47 = .ok (.aload_n 0, 1) := by decide +kernel
theorem dX4_questionsTillEven_48 : decode cX4_questionsTillEven 48 = .ok (.getfield 21, 3) := by decide +kernel
theorem dX4_questionsTillEven_51 : decode cX4_questionsTillEven 51 = .ok (.imul, 1) := by decide +kernel
theorem dX4_questionsTillEven_52 : decode cX4_questionsTillEven 52 = .ok (.iload_n 2, 1) := by decide +kernel
theorem dX4_questionsTillEven_53 : decode cX4_questionsTillEven 53 = .ok (.isub, 1) := by decide +kernel
theorem dX4_questionsTillEven_54 : decode cX4_questionsTillEven 54 = .ok (.ireturn, 1) := by decide +kernel
theorem dX5_init_0 : decode cX5_init 0 = .ok (.aload_n 0, 1) := by decide +kernel
theorem dX5_init_1 : decode cX5_init 1 = .ok (.invokespecial 3, 3) := by decide +kernel
theorem dX5_init_4 : decode cX5_init 4 = .ok (.aload_n 0, 1) := by decide +kernel
theorem dX5_init_5 : decode cX5_init 5 = .ok (.bipush 8, 2) := by decide +kernel
theorem dX5_init_7 : decode cX5_init 7 = .ok (.newarray .int, 2) := by decide +kernel
theorem dX5_init_9 : decode cX5_init 9 = .ok (.putfield 9, 3) := by decide +kernel
theorem dX5_init_12 : decode cX5_init 12 = .ok (.aload_n 0, 1) := by decide +kernel
theorem dX5_init_13 : decode cX5_init 13 = .ok (.bipush 8, 2) := by decide +kernel
theorem dX5_init_15 : decode cX5_init 15 = .ok (.newarray .int, 2) := by decide +kernel
theorem dX5_init_17 : decode cX5_init 17 = .ok (.putfield 15, 3) := by decide +kernel
theorem dX5_init_20 : decode cX5_init 20 = .ok (.aload_n 0, 1) := by decide +kernel
theorem dX5_init_21 : decode cX5_init 21 = .ok (.bipush 8, 2) := by decide +kernel
theorem dX5_init_23 : decode cX5_init 23 = .ok (.newarray .int, 2) := by decide +kernel
theorem dX5_init_25 : decode cX5_init 25 = .ok (.putfield 18, 3) := by decide +kernel
theorem dX5_init_28 : decode cX5_init 28 = .ok (.aload_n 0, 1) := by decide +kernel
theorem dX5_init_29 : decode cX5_init 29 = .ok (.iconst 0, 1) := by decide +kernel
theorem dX5_init_30 : decode cX5_init 30 = .ok (.putfield 21, 3) := by decide +kernel
theorem dX5_init_33 : decode cX5_init 33 = .ok (.return_, 1) := by decide +kernel
theorem dX5_take_0 : decode cX5_take 0 = .ok (.aload_n 0, 1) := by decide +kernel
theorem dX5_take_1 : decode cX5_take 1 = .ok (.getfield 21, 3) := by decide +kernel
theorem dX5_take_4 : decode cX5_take 4 = .ok (.istore 4, 2) := by decide +kernel
theorem dX5_take_6 : decode cX5_take 6 = .ok (.aload_n 0, 1) := by decide +kernel
theorem dX5_take_7 : decode cX5_take 7 = .ok (.getfield 9, 3) := by decide +kernel
theorem dX5_take_10 : decode cX5_take 10 = .ok (.iload 4, 2) := by decide +kernel
theorem dX5_take_12 : decode cX5_take 12 = .ok (.iload_n 1, 1) := by decide +kernel
theorem dX5_take_13 : decode cX5_take 13 = .ok (.iastore, 1) := by decide +kernel
theorem dX5_take_14 : decode cX5_take 14 = .ok (.aload_n 0, 1) := by decide +kernel
theorem dX5_take_15 : decode cX5_take 15 = .ok (.getfield 15, 3) := by decide +kernel
theorem dX5_take_18 : decode cX5_take 18 = .ok (.iload 4, 2) := by decide +kernel
theorem dX5_take_20 : decode cX5_take 20 = .ok (.iload_n 2, 1) := by decide +kernel
theorem dX5_take_21 : decode cX5_take 21 = .ok (.iastore, 1) := by decide +kernel
theorem dX5_take_22 : decode cX5_take 22 = .ok (.aload_n 0, 1) := by decide +kernel
theorem dX5_take_23 : decode cX5_take 23 = .ok (.getfield 18, 3) := by decide +kernel
theorem dX5_take_26 : decode cX5_take 26 = .ok (.iload 4, 2) := by decide +kernel
theorem dX5_take_28 : decode cX5_take 28 = .ok (.iload_n 3, 1) := by decide +kernel
theorem dX5_take_29 : decode cX5_take 29 = .ok (.iastore, 1) := by decide +kernel
theorem dX5_take_30 : decode cX5_take 30 = .ok (.aload_n 0, 1) := by decide +kernel
theorem dX5_take_31 : decode cX5_take 31 = .ok (.dup, 1) := by decide +kernel
theorem dX5_take_32 : decode cX5_take 32 = .ok (.getfield 21, 3) := by decide +kernel
theorem dX5_take_35 : decode cX5_take 35 = .ok (.iconst 1, 1) := by decide +kernel
theorem dX5_take_36 : decode cX5_take 36 = .ok (.iadd, 1) := by decide +kernel
theorem dX5_take_37 : decode cX5_take 37 = .ok (.putfield 21, 3) := by decide +kernel
theorem dX5_take_40 : decode cX5_take 40 = .ok (.iload 4, 2) := by decide +kernel
theorem dX5_take_42 : decode cX5_take 42 = .ok (.ireturn, 1) := by decide +kernel
set_option maxRecDepth 20000 in
theorem ggX5_allSo_X4_bringing : GoodIn wsX5_allSo wsX4_bringing := goodIn_r _ [9, 10, 11, 12, 13, 14, 15, 16, 17, 18, 19, 20, 21, 22, 23, 28, 29, 30, 31, 32, 33, 34] (by decide +kernel) (by decide +kernel)
set_option maxRecDepth 20000 in
theorem gX5_allSo_X4_bringing : GoodIn wsX5_allSo (wsV RX5 25 RX4 yX4_bringing wsX4_bringing) := goodIn_app (goodIn_of _ (by decide +kernel)) ggX5_allSo_X4_bringing
theorem dX5_allSo_0 : decode cX5_allSo 0 = .ok (.iconst 0, 1) := by decide +kernel
theorem dX5_allSo_1 : decode cX5_allSo 1 = .ok (.istore_n 2, 1) := by decide +kernel
theorem dX5_allSo_2 : decode cX5_allSo 2 = .ok (.iload_n 2, 1) := by decide +kernel
theorem dX5_allSo_3 : decode cX5_allSo 3 = .ok (.aload_n 0, 1) := by decide +kernel
theorem dX5_allSo_4 : decode cX5_allSo 4 = .ok (.getfield 21, 3) := by decide +kernel
theorem dX5_allSo_7 : decode cX5_allSo 7 = .ok (.if_icmp .ge 36, 3) := by decide +kernel
theorem dX5_allSo_10 : decode cX5_allSo 10 = .ok (.aload_n 1, 1) := by decide +kernel
theorem dX5_allSo_11 : decode cX5_allSo 11 = .ok (.aload_n 0, 1) := by decide +kernel
theorem dX5_allSo_12 : decode cX5_allSo 12 = .ok (.getfield 9, 3) := by decide +kernel
theorem dX5_allSo_15 : decode cX5_allSo 15 = .ok (.iload_n 2, 1) := by decide +kernel
theorem dX5_allSo_16 : decode cX5_allSo 16 = .ok (.iaload, 1) := by decide +kernel
theorem dX5_allSo_17 : decode cX5_allSo 17 = .ok (.aload_n 0, 1) := by decide +kernel
theorem dX5_allSo_18 : decode cX5_allSo 18 = .ok (.getfield 15, 3) := by decide +kernel
theorem dX5_allSo_21 : decode cX5_allSo 21 = .ok (.iload_n 2, 1) := by decide +kernel
theorem dX5_allSo_22 : decode cX5_allSo 22 = .ok (.iaload, 1) := by decide +kernel
theorem dX5_allSo_23 : decode cX5_allSo 23 = .ok (.invokevirtual 25, 3) := by decide +kernel
theorem dX5_allSo_26 : decode cX5_allSo 26 = .ok (.aload_n 0, 1) := by decide +kernel
theorem dX5_allSo_27 : decode cX5_allSo 27 = .ok (.getfield 18, 3) := by decide +kernel
theorem dX5_allSo_30 : decode cX5_allSo 30 = .ok (.iload_n 2, 1) := by decide +kernel
theorem dX5_allSo_31 : decode cX5_allSo 31 = .ok (.iaload, 1) := by decide +kernel
theorem dX5_allSo_32 : decode cX5_allSo 32 = .ok (.if_icmp .eq 5, 3) := by decide +kernel
theorem dX5_allSo_35 : decode cX5_allSo 35 = .ok (.iconst 0, 1) := by decide +kernel
theorem dX5_allSo_36 : decode cX5_allSo 36 = .ok (.ireturn, 1) := by decide +kernel
theorem dX5_allSo_37 : decode cX5_allSo 37 = .ok (.iinc 2 1, 3) := by decide +kernel
theorem dX5_allSo_40 : decode cX5_allSo 40 = .ok (.goto (-38), 3) := by decide +kernel
theorem dX5_allSo_43 : decode cX5_allSo 43 = .ok (.iconst 1, 1) := by decide +kernel
theorem dX5_allSo_44 : decode cX5_allSo 44 = .ok (.ireturn, 1) := by decide +kernel
theorem dX6_init_0 : decode cX6_init 0 = .ok (.aload_n 0, 1) := by decide +kernel
theorem dX6_init_1 : decode cX6_init 1 = .ok (.invokespecial 3, 3) := by decide +kernel
theorem dX6_init_4 : decode cX6_init 4 = .ok (.aload_n 0, 1) := by decide +kernel
theorem dX6_init_5 : decode cX6_init 5 = .ok (.bipush 60, 2) := by decide +kernel
theorem dX6_init_7 : decode cX6_init 7 = .ok (.newarray .int, 2) := by decide +kernel
theorem dX6_init_9 : decode cX6_init 9 = .ok (.putfield 9, 3) := by decide +kernel
theorem dX6_init_12 : decode cX6_init 12 = .ok (.aload_n 0, 1) := by decide +kernel
theorem dX6_init_13 : decode cX6_init 13 = .ok (.iconst 0, 1) := by decide +kernel
theorem dX6_init_14 : decode cX6_init 14 = .ok (.putfield 15, 3) := by decide +kernel
theorem dX6_init_17 : decode cX6_init 17 = .ok (.aload_n 0, 1) := by decide +kernel
theorem dX6_init_18 : decode cX6_init 18 = .ok (.iconst 0, 1) := by decide +kernel
theorem dX6_init_19 : decode cX6_init 19 = .ok (.putfield 19, 3) := by decide +kernel
theorem dX6_init_22 : decode cX6_init 22 = .ok (.aload_n 0, 1) := by decide +kernel
theorem dX6_init_23 : decode cX6_init 23 = .ok (.iconst 0, 1) := by decide +kernel
theorem dX6_init_24 : decode cX6_init 24 = .ok (.putfield 23, 3) := by decide +kernel
theorem dX6_init_27 : decode cX6_init 27 = .ok (.return_, 1) := by decide +kernel
set_option maxRecDepth 20000 in
theorem ggX6_begin_J7_fill_53178 : GoodIn wsX6_begin wsJ7_fill_53178 := goodIn_r _ [8] (by decide +kernel) (by decide +kernel)
set_option maxRecDepth 20000 in
theorem gX6_begin_J7_fill_53178 : GoodIn wsX6_begin (va_wsS RX6 26 yJ7_fill_53178 wsJ7_fill_53178) := goodIn_app (goodIn_of _ (by decide +kernel)) ggX6_begin_J7_fill_53178
theorem dX6_begin_0 : decode cX6_begin 0 = .ok (.aload_n 0, 1) := by decide +kernel
theorem dX6_begin_1 : decode cX6_begin 1 = .ok (.getfield 9, 3) := by decide +kernel
theorem dX6_begin_4 : decode cX6_begin 4 = .ok (.iconst 0, 1) := by decide +kernel
theorem dX6_begin_5 : decode cX6_begin 5 = .ok (.invokestatic 26, 3) := by decide +kernel
theorem dX6_begin_8 : decode cX6_begin 8 = .ok (.aload_n 0, 1) := by decide +kernel
theorem dX6_begin_9 : decode cX6_begin 9 = .ok (.iconst 1, 1) := by decide +kernel
theorem dX6_begin_10 : decode cX6_begin 10 = .ok (.putfield 15, 3) := by decide +kernel
theorem dX6_begin_13 : decode cX6_begin 13 = .ok (.aload_n 0, 1) := by decide +kernel
theorem dX6_begin_14 : decode cX6_begin 14 = .ok (.iload_n 1, 1) := by decide +kernel
theorem dX6_begin_15 : decode cX6_begin 15 = .ok (.putfield 19, 3) := by decide +kernel
theorem dX6_begin_18 : decode cX6_begin 18 = .ok (.aload_n 0, 1) := by decide +kernel
theorem dX6_begin_19 : decode cX6_begin 19 = .ok (.iload_n 2, 1) := by decide +kernel
theorem dX6_begin_20 : decode cX6_begin 20 = .ok (.putfield 23, 3) := by decide +kernel
theorem dX6_begin_23 : decode cX6_begin 23 = .ok (.return_, 1) := by decide +kernel
theorem dX6_cut_0 : decode cX6_cut 0 = .ok (.aload_n 0, 1) := by decide +kernel
theorem dX6_cut_1 : decode cX6_cut 1 = .ok (.getfield 19, 3) := by decide +kernel
theorem dX6_cut_4 : decode cX6_cut 4 = .ok (.ifCond .ne 6, 3) := by decide +kernel
theorem dX6_cut_7 : decode cX6_cut 7 = .ok (.iload_n 1, 1) := by decide +kernel
theorem dX6_cut_8 : decode cX6_cut 8 = .ok (.i2b, 1) := by decide +kernel
theorem dX6_cut_9 : decode cX6_cut 9 = .ok (.ireturn, 1) := by decide +kernel
theorem dX6_cut_10 : decode cX6_cut 10 = .ok (.aload_n 0, 1) := by decide +kernel
theorem dX6_cut_11 : decode cX6_cut 11 = .ok (.getfield 19, 3) := by decide +kernel
theorem dX6_cut_14 : decode cX6_cut 14 = .ok (.iconst 1, 1) := by decide +kernel
theorem dX6_cut_15 : decode cX6_cut 15 = .ok (.if_icmp .ne 8, 3) := by decide +kernel
theorem dX6_cut_18 : decode cX6_cut 18 = .ok (.iload_n 1, 1) := by decide +kernel
theorem dX6_cut_19 : decode cX6_cut 19 = .ok (.i2s, 1) := by decide +kernel
theorem dX6_cut_20 : decode cX6_cut 20 = .ok (.goto 4, 3) := by decide +kernel
theorem dX6_cut_23 : decode cX6_cut 23 = .ok (.iload_n 1, 1) := by decide +kernel
theorem dX6_cut_24 : decode cX6_cut 24 = .ok (.ireturn, 1) := by decide +kernel
theorem dX6_faultAs_0 : decode cX6_faultAs 0 = .ok (.aload_n 0, 1) := by decide +kernel
theorem dX6_faultAs_1 : decode cX6_faultAs 1 = .ok (.getfield 15, 3) := by decide +kernel
theorem dX6_faultAs_4 : decode cX6_faultAs 4 = .ok (.ifCond .ne 5, 3) := by decide +kernel
theorem dX6_faultAs_7 : decode cX6_faultAs 7 = .ok (.iconst 1, 1) := by decide +kernel
theorem dX6_faultAs_8 : decode cX6_faultAs 8 = .ok (.ireturn, 1) := by decide +kernel
theorem dX6_faultAs_9 : decode cX6_faultAs 9 = .ok (.aload_n 0, 1) := by decide +kernel
theorem dX6_faultAs_10 : decode cX6_faultAs 10 = .ok (.getfield 19, 3) := by decide +kernel
theorem dX6_faultAs_13 : decode cX6_faultAs 13 = .ok (.iload_n 1, 1) := by decide +kernel
theorem dX6_faultAs_14 : decode cX6_faultAs 14 = .ok (.if_icmp .ne 7, 3) := by decide +kernel
theorem dX6_faultAs_17 : decode cX6_faultAs 17 = .ok (.iconst 0, 1) := by decide +kernel
theorem dX6_faultAs_18 : decode cX6_faultAs 18 = .ok (.goto 4, 3) := by decide +kernel
theorem dX6_faultAs_21 : decode cX6_faultAs 21 = .ok (.iconst 2, 1) := by decide +kernel
theorem dX6_faultAs_22 : decode cX6_faultAs 22 = .ok (.ireturn, 1) := by decide +kernel
theorem dX6_holds_0 : decode cX6_holds 0 = .ok (.iload_n 1, 1) := by decide +kernel
theorem dX6_holds_1 : decode cX6_holds 1 = .ok (.ifCond .lt 29, 3) := by decide +kernel
theorem dX6_holds_4 : decode cX6_holds 4 = .ok (.iload_n 1, 1) := by decide +kernel
theorem dX6_holds_5 : decode cX6_holds 5 = .ok (.aload_n 0, 1) := by decide +kernel
theorem dX6_holds_6 : decode cX6_holds 6 = .ok (.getfield 23, 3) := by decide +kernel
theorem dX6_holds_9 : decode cX6_holds 9 = .ok (.if_icmp .gt 21, 3) := by decide +kernel
theorem dX6_holds_12 : decode cX6_holds 12 = .ok (.iload_n 2, 1) := by decide +kernel
theorem dX6_holds_13 : decode cX6_holds 13 = .ok (.ifCond .lt 17, 3) := by decide +kernel
theorem dX6_holds_16 : decode cX6_holds 16 = .ok (.iload_n 2, 1) := by decide +kernel
theorem dX6_holds_17 : decode cX6_holds 17 = .ok (.aload_n 0, 1) := by decide +kernel
theorem dX6_holds_18 : decode cX6_holds 18 = .ok (.getfield 23, 3) := by decide +kernel
theorem dX6_holds_21 : decode cX6_holds 21 = .ok (.iload_n 1, 1) := by decide +kernel
theorem dX6_holds_22 : decode cX6_holds 22 = .ok (.isub, 1) := by decide +kernel
theorem dX6_holds_23 : decode cX6_holds 23 = .ok (.if_icmp .gt 7, 3) := by decide +kernel
theorem dX6_holds_26 : decode cX6_holds 26 = .ok (.iconst 1, 1) := by decide +kernel
theorem dX6_holds_27 : decode cX6_holds 27 = .ok (.goto 4, 3) := by decide +kernel
theorem dX6_holds_30 : decode cX6_holds 30 = .ok (.iconst 0, 1) := by decide +kernel
theorem dX6_holds_31 : decode cX6_holds 31 = .ok (.ireturn, 1) := by decide +kernel
set_option maxRecDepth 20000 in
theorem ggX7_firstFault_X7_mayStand : GoodIn wsX7_firstFault wsX7_mayStand := goodIn_r _ [5, 6, 7, 4, 8, 9, 10, 11] (by decide +kernel) (by decide +kernel)
set_option maxRecDepth 20000 in
theorem gX7_firstFault_X7_mayStand : GoodIn wsX7_firstFault (va_wsS RX7 15 yX7_mayStand wsX7_mayStand) := goodIn_app (goodIn_of _ (by decide +kernel)) ggX7_firstFault_X7_mayStand
theorem dX7_firstFault_0 : decode cX7_firstFault 0 = .ok (.iconst 0, 1) := by decide +kernel
theorem dX7_firstFault_1 : decode cX7_firstFault 1 = .ok (.istore_n 3, 1) := by decide +kernel
theorem dX7_firstFault_2 : decode cX7_firstFault 2 = .ok (.iload_n 3, 1) := by decide +kernel
theorem dX7_firstFault_3 : decode cX7_firstFault 3 = .ok (.iload_n 2, 1) := by decide +kernel
theorem dX7_firstFault_4 : decode cX7_firstFault 4 = .ok (.if_icmp .ge 26, 3) := by decide +kernel
theorem dX7_firstFault_7 : decode cX7_firstFault 7 = .ok (.iload_n 3, 1) := by decide +kernel
theorem dX7_firstFault_8 : decode cX7_firstFault 8 = .ok (.aload_n 0, 1) := by decide +kernel
theorem dX7_firstFault_9 : decode cX7_firstFault 9 = .ok (.getfield 9, 3) := by decide +kernel
theorem dX7_firstFault_12 : decode cX7_firstFault 12 = .ok (.iload_n 1, 1) := by decide +kernel
theorem dX7_firstFault_13 : decode cX7_firstFault 13 = .ok (.iload_n 3, 1) := by decide +kernel
theorem dX7_firstFault_14 : decode cX7_firstFault 14 = .ok (.iadd, 1) := by decide +kernel
theorem dX7_firstFault_15 : decode cX7_firstFault 15 = .ok (.iaload, 1) := by decide +kernel
theorem dX7_firstFault_16 : decode cX7_firstFault 16 = .ok (.invokestatic 15, 3) := by decide +kernel
theorem dX7_firstFault_19 : decode cX7_firstFault 19 = .ok (.ifCond .ne 5, 3) := by decide +kernel
theorem dX7_firstFault_22 : decode cX7_firstFault 22 = .ok (.iload_n 3, 1) := by decide +kernel
theorem dX7_firstFault_23 : decode cX7_firstFault 23 = .ok (.ireturn, 1) := by decide +kernel
theorem dX7_firstFault_24 : decode cX7_firstFault 24 = .ok (.iinc 3 1, 3) := by decide +kernel
theorem dX7_firstFault_27 : decode cX7_firstFault 27 = .ok (.goto (-25), 3) := by decide +kernel
theorem dX7_firstFault_30 : decode cX7_firstFault 30 = .ok (.iload_n 2, 1) := by decide +kernel
theorem dX7_firstFault_31 : decode cX7_firstFault 31 = .ok (.bipush 14, 2) := by decide +kernel
theorem dX7_firstFault_33 : decode cX7_firstFault 33 = .ok (.if_icmp .lt 15, 3) := by decide +kernel
theorem dX7_firstFault_36 : decode cX7_firstFault 36 = .ok (.iload_n 2, 1) := by decide +kernel
theorem dX7_firstFault_37 : decode cX7_firstFault 37 = .ok (.iconst 4, 1) := by decide +kernel
theorem dX7_firstFault_38 : decode cX7_firstFault 38 = .ok (.isub, 1) := by decide +kernel
theorem dX7_firstFault_39 : decode cX7_firstFault 39 = .ok (.iconst 5, 1) := by decide +kernel
theorem dX7_firstFault_40 : decode cX7_firstFault 40 = .ok (.irem, 1) := by decide +kernel
theorem dX7_firstFault_41 : decode cX7_firstFault 41 = .ok (.ifCond .ne 7, 3) := by decide +kernel
theorem dX7_firstFault_44 : decode cX7_firstFault 44 = .ok (.iconst 1, 1) := by decide +kernel
theorem dX7_firstFault_45 : decode cX7_firstFault 45 = .ok (.goto 4, 3) := by decide +kernel
theorem dX7_firstFault_48 : decode cX7_firstFault 48 = .ok (.iconst 0, 1) := by decide +kernel
theorem dX7_firstFault_49 : decode cX7_firstFault 49 = .ok (.istore_n 3, 1) := by decide +kernel
theorem dX7_firstFault_50 : decode cX7_firstFault 50 = .ok (.iload_n 3, 1) := by decide +kernel
theorem dX7_firstFault_51 : decode cX7_firstFault 51 = .ok (.ifCond .eq 8, 3) := by decide +kernel
theorem dX7_firstFault_54 : decode cX7_firstFault 54 = .ok (.bipush (-9), 2) := by decide +kernel
theorem dX7_firstFault_56 : decode cX7_firstFault 56 = .ok (.goto 4, 3) := by decide +kernel
theorem dX7_firstFault_59 : decode cX7_firstFault 59 = .ok (.iload_n 2, 1) := by decide +kernel
theorem dX7_firstFault_60 : decode cX7_firstFault 60 = .ok (.ireturn, 1) := by decide +kernel
set_option maxRecDepth 20000 in
theorem ggX7_mayStand_X7_isDigit : GoodIn wsX7_mayStand wsX7_isDigit := goodIn_r _ [4] (by decide +kernel) (by decide +kernel)
set_option maxRecDepth 20000 in
theorem gX7_mayStand_X7_isDigit : GoodIn wsX7_mayStand (va_wsS RX7 21 yX7_isDigit wsX7_isDigit) := goodIn_app (goodIn_of _ (by decide +kernel)) ggX7_mayStand_X7_isDigit
set_option maxRecDepth 20000 in
theorem ggX7_mayStand_X7_kindOf : GoodIn wsX7_mayStand wsX7_kindOf := goodIn_r _ [7] (by decide +kernel) (by decide +kernel)
set_option maxRecDepth 20000 in
theorem gX7_mayStand_X7_kindOf : GoodIn wsX7_mayStand (va_wsS RX7 24 yX7_kindOf wsX7_kindOf) := goodIn_app (goodIn_of _ (by decide +kernel)) ggX7_mayStand_X7_kindOf
theorem dX7_mayStand_0 : decode cX7_mayStand 0 = .ok (.iload_n 0, 1) := by decide +kernel
theorem dX7_mayStand_1 : decode cX7_mayStand 1 = .ok (.ifCond .ne 15, 3) := by decide +kernel
theorem dX7_mayStand_4 : decode cX7_mayStand 4 = .ok (.iload_n 1, 1) := by decide +kernel
theorem dX7_mayStand_5 : decode cX7_mayStand 5 = .ok (.bipush 112, 2) := by decide +kernel
theorem dX7_mayStand_7 : decode cX7_mayStand 7 = .ok (.if_icmp .ne 7, 3) := by decide +kernel
theorem dX7_mayStand_10 : decode cX7_mayStand 10 = .ok (.iconst 1, 1) := by decide +kernel
theorem dX7_mayStand_11 : decode cX7_mayStand 11 = .ok (.goto 4, 3) := by decide +kernel
theorem dX7_mayStand_14 : decode cX7_mayStand 14 = .ok (.iconst 0, 1) := by decide +kernel
theorem dX7_mayStand_15 : decode cX7_mayStand 15 = .ok (.ireturn, 1) := by decide +kernel
theorem dX7_mayStand_16 : decode cX7_mayStand 16 = .ok (.iload_n 0, 1) := by decide +kernel
theorem dX7_mayStand_17 : decode cX7_mayStand 17 = .ok (.iconst 4, 1) := by decide +kernel
theorem dX7_mayStand_18 : decode cX7_mayStand 18 = .ok (.if_icmp .ge 10, 3) := by decide +kernel
theorem dX7_mayStand_21 : decode cX7_mayStand 21 = .ok (.iload_n 1, 1) := by decide +kernel
theorem dX7_mayStand_22 : decode cX7_mayStand 22 = .ok (.bipush 10, 2) := by decide +kernel
theorem dX7_mayStand_24 : decode cX7_mayStand 24 = .ok (.invokestatic 21, 3) := by decide +kernel
theorem dX7_mayStand_27 : decode cX7_mayStand 27 = .ok (.ireturn, 1) := by decide +kernel
theorem dX7_mayStand_28 : decode cX7_mayStand 28 = .ok (.iload_n 0, 1) := by decide +kernel
theorem dX7_mayStand_29 : decode cX7_mayStand 29 = .ok (.bipush 34, 2) := by decide +kernel
theorem dX7_mayStand_31 : decode cX7_mayStand 31 = .ok (.if_icmp .lt 5, 3) := by decide +kernel
theorem dX7_mayStand_34 : decode cX7_mayStand 34 = .ok (.iconst 0, 1) := by decide +kernel
theorem dX7_mayStand_35 : decode cX7_mayStand 35 = .ok (.ireturn, 1) := by decide +kernel
theorem dX7_mayStand_36 : decode cX7_mayStand 36 = .ok (.iload_n 0, 1) := by decide +kernel
theorem dX7_mayStand_37 : decode cX7_mayStand 37 = .ok (.iconst 4, 1) := by decide +kernel
theorem dX7_mayStand_38 : decode cX7_mayStand 38 = .ok (.isub, 1) := by decide +kernel
theorem dX7_mayStand_39 : decode cX7_mayStand 39 = .ok (.iconst 5, 1) := by decide +kernel
theorem dX7_mayStand_40 : decode cX7_mayStand 40 = .ok (.irem, 1) := by decide +kernel
theorem dX7_mayStand_41 : decode cX7_mayStand 41 = .ok (.tableswitch 65 0 3 #[31, 43, 65, 58], 31) := by decide +kernel
theorem dX7_mayStand_72 : decode cX7_mayStand 72 = .ok (.iload_n 1, 1) := by decide +kernel
theorem dX7_mayStand_73 : decode cX7_mayStand 73 = .ok (.bipush 59, 2) := by decide +kernel
theorem dX7_mayStand_75 : decode cX7_mayStand 75 = .ok (.if_icmp .ne 7, 3) := by decide +kernel
theorem dX7_mayStand_78 : decode cX7_mayStand 78 = .ok (.iconst 1, 1) := by decide +kernel
theorem dX7_mayStand_79 : decode cX7_mayStand 79 = .ok (.goto 4, 3) := by decide +kernel
theorem dX7_mayStand_82 : decode cX7_mayStand 82 = .ok (.iconst 0, 1) := by decide +kernel
theorem dX7_mayStand_83 : decode cX7_mayStand 83 = .ok (.ireturn, 1) := by decide +kernel
theorem dX7_mayStand_84 : decode cX7_mayStand 84 = .ok (.iload_n 1, 1) := by decide +kernel
theorem dX7_mayStand_85 : decode cX7_mayStand 85 = .ok (.invokestatic 24, 3) := by decide +kernel
theorem dX7_mayStand_88 : decode cX7_mayStand 88 = .ok (.bipush (-9), 2) := by decide +kernel
theorem dX7_mayStand_90 : decode cX7_mayStand 90 = .ok (.if_icmp .eq 7, 3) := by decide +kernel
theorem dX7_mayStand_93 : decode cX7_mayStand 93 = .ok (.iconst 1, 1) := by decide +kernel
theorem dX7_mayStand_94 : decode cX7_mayStand 94 = .ok (.goto 4, 3) := by decide +kernel
theorem dX7_mayStand_97 : decode cX7_mayStand 97 = .ok (.iconst 0, 1) := by decide +kernel
theorem dX7_mayStand_98 : decode cX7_mayStand 98 = .ok (.ireturn, 1) := by decide +kernel
theorem dX7_mayStand_99 : decode cX7_mayStand 99 = .ok (.iload_n 1, 1) := by decide +kernel
theorem dX7_mayStand_100 : decode cX7_mayStand 100 = .ok (.bipush 8, 2) := by decide +kernel
theorem dX7_mayStand_102 : decode cX7_mayStand 102 = .ok (.invokestatic 21, 3) := by decide +kernel
theorem dX7_mayStand_105 : decode cX7_mayStand 105 = .ok (.ireturn, 1) := by decide +kernel
theorem dX7_mayStand_106 : decode cX7_mayStand 106 = .ok (.iload_n 1, 1) := by decide +kernel
theorem dX7_mayStand_107 : decode cX7_mayStand 107 = .ok (.bipush 10, 2) := by decide +kernel
theorem dX7_mayStand_109 : decode cX7_mayStand 109 = .ok (.invokestatic 21, 3) := by decide +kernel
theorem dX7_mayStand_112 : decode cX7_mayStand 112 = .ok (.ireturn, 1) := by decide +kernel
theorem dX7_isDigit_0 : decode cX7_isDigit 0 = .ok (.iload_n 0, 1) := by decide +kernel
theorem dX7_isDigit_1 : decode cX7_isDigit 1 = .ok (.bipush 48, 2) := by decide +kernel
theorem dX7_isDigit_3 : decode cX7_isDigit 3 = .ok (.if_icmp .lt 15, 3) := by decide +kernel
theorem dX7_isDigit_6 : decode cX7_isDigit 6 = .ok (.iload_n 0, 1) := by decide +kernel
theorem dX7_isDigit_7 : decode cX7_isDigit 7 = .ok (.bipush 48, 2) := by decide +kernel
theorem dX7_isDigit_9 : decode cX7_isDigit 9 = .ok (.iload_n 1, 1) := by decide +kernel
theorem dX7_isDigit_10 : decode cX7_isDigit 10 = .ok (.iadd, 1) := by decide +kernel
theorem dX7_isDigit_11 : decode cX7_isDigit 11 = .ok (.if_icmp .ge 7, 3) := by decide +kernel
theorem dX7_isDigit_14 : decode cX7_isDigit 14 = .ok (.iconst 1, 1) := by decide +kernel
theorem dX7_isDigit_15 : decode cX7_isDigit 15 = .ok (.goto 4, 3) := by decide +kernel
theorem dX7_isDigit_18 : decode cX7_isDigit 18 = .ok (.iconst 0, 1) := by decide +kernel
theorem dX7_isDigit_19 : decode cX7_isDigit 19 = .ok (.ireturn, 1) := by decide +kernel
theorem dX7_kindOf_0 : decode cX7_kindOf 0 = .ok (.iload_n 0, 1) := by decide +kernel
theorem dX7_kindOf_1 : decode cX7_kindOf 1 = .ok (.lookupswitch 41 #[(103, 35), (104, 39), (116, 37)], 35) := by decide +kernel
theorem dX7_kindOf_36 : decode cX7_kindOf 36 = .ok (.iconst 0, 1) := by decide +kernel
theorem dX7_kindOf_37 : decode cX7_kindOf 37 = .ok (.ireturn, 1) := by decide +kernel
theorem dX7_kindOf_38 : decode cX7_kindOf 38 = .ok (.iconst 1, 1) := by decide +kernel
theorem dX7_kindOf_39 : decode cX7_kindOf 39 = .ok (.ireturn, 1) := by decide +kernel
theorem dX7_kindOf_40 : decode cX7_kindOf 40 = .ok (.iconst 2, 1) := by decide +kernel
theorem dX7_kindOf_41 : decode cX7_kindOf 41 = .ok (.ireturn, 1) := by decide +kernel
theorem dX7_kindOf_42 : decode cX7_kindOf 42 = .ok (.bipush (-9), 2) := by decide +kernel
theorem dX7_kindOf_44 : decode cX7_kindOf 44 = .ok (.ireturn, 1) := by decide +kernel
set_option maxRecDepth 20000 in
theorem ggX7_read_X7_kindOf : GoodIn wsX7_read wsX7_kindOf := goodIn_r _ [12] (by decide +kernel) (by decide +kernel)
set_option maxRecDepth 20000 in
theorem gX7_read_X7_kindOf : GoodIn wsX7_read (va_wsS RX7 24 yX7_kindOf wsX7_kindOf) := goodIn_app (goodIn_of _ (by decide +kernel)) ggX7_read_X7_kindOf
theorem dX7_read_0 : decode cX7_read 0 = .ok (.aload_n 0, 1) := by decide +kernel
theorem dX7_read_1 : decode cX7_read 1 = .ok (.getfield 9, 3) := by decide +kernel
theorem dX7_read_4 : decode cX7_read 4 = .ok (.astore 4, 2) := by decide +kernel
theorem dX7_read_6 : decode cX7_read 6 = .ok (.iconst 0, 1) := by decide +kernel
theorem dX7_read_7 : decode cX7_read 7 = .ok (.istore 5, 2) := by decide +kernel
theorem dX7_read_9 : decode cX7_read 9 = .ok (.iload 5, 2) := by decide +kernel
theorem dX7_read_11 : decode cX7_read 11 = .ok (.iconst 3, 1) := by decide +kernel
theorem dX7_read_12 : decode cX7_read 12 = .ok (.if_icmp .ge 28, 3) := by decide +kernel
theorem dX7_read_15 : decode cX7_read 15 = .ok (.aload_n 3, 1) := by decide +kernel
theorem dX7_read_16 : decode cX7_read 16 = .ok (.getfield 28, 3) := by decide +kernel
theorem dX7_read_19 : decode cX7_read 19 = .ok (.iload 5, 2) := by decide +kernel
theorem dX7_read_21 : decode cX7_read 21 = .ok (.aload 4, 2) := by decide +kernel
theorem dX7_read_23 : decode cX7_read 23 = .ok (.iload_n 1, 1) := by decide +kernel
theorem dX7_read_24 : decode cX7_read 24 = .ok (.iconst 1, 1) := by decide +kernel
theorem dX7_read_25 : decode cX7_read 25 = .ok (.iadd, 1) := by decide +kernel
theorem dX7_read_26 : decode cX7_read 26 = .ok (.iload 5, 2) := by decide +kernel
theorem dX7_read_28 : decode cX7_read 28 = .ok (.iadd, 1) := by decide +kernel
theorem dX7_read_29 : decode cX7_read 29 = .ok (.iaload, 1) := by decide +kernel
theorem dX7_read_30 : decode cX7_read 30 = .ok (.bipush 48, 2) := by decide +kernel
theorem dX7_read_32 : decode cX7_read 32 = .ok (.isub, 1) := by decide +kernel
theorem dX7_read_33 : decode cX7_read 33 = .ok (.iastore, 1) := by decide +kernel
theorem dX7_read_34 : decode cX7_read 34 = .ok (.iinc 5 1, 3) := by decide +kernel
theorem dX7_read_37 : decode cX7_read 37 = .ok (.goto (-28), 3) := by decide +kernel
theorem dX7_read_40 : decode cX7_read 40 = .ok (.aload_n 3, 1) := by decide +kernel
theorem dX7_read_41 : decode cX7_read 41 = .ok (.iload_n 2, 1) := by decide +kernel
theorem dX7_read_42 : decode cX7_read 42 = .ok (.iconst 4, 1) := by decide +kernel
theorem dX7_read_43 : decode cX7_read 43 = .ok (.isub, 1) := by decide +kernel
theorem dX7_read_44 : decode cX7_read 44 = .ok (.iconst 5, 1) := by decide +kernel
theorem dX7_read_45 : decode cX7_read 45 = .ok (.idiv, 1) := by decide +kernel
theorem dX7_read_46 : decode cX7_read 46 = .ok (.putfield 33, 3) := by decide +kernel
theorem dX7_read_49 : decode cX7_read 49 = .ok (.iconst 0, 1) := by decide +kernel
theorem dX7_read_50 : decode cX7_read 50 = .ok (.istore 5, 2) := by decide +kernel
theorem dX7_read_52 : decode cX7_read 52 = .ok (.iload 5, 2) := by decide +kernel
theorem dX7_read_54 : decode cX7_read 54 = .ok (.aload_n 3, 1) := by decide +kernel
theorem dX7_read_55 : decode cX7_read 55 = .ok (.getfield 33, 3) := by decide +kernel
theorem dX7_read_58 : decode cX7_read 58 = .ok (.if_icmp .ge 88, 3) := by decide +kernel
theorem dX7_read_61 : decode cX7_read 61 = .ok (.iload_n 1, 1) := by decide +kernel
theorem dX7_read_62 : decode cX7_read 62 = .ok (.iconst 4, 1) := by decide +kernel
theorem dX7_read_63 : decode cX7_read 63 = .ok (.iadd, 1) := by decide +kernel
theorem dX7_read_64 : decode cX7_read 64 = .ok (.iload 5, 2) := by decide +kernel
theorem dX7_read_66 : decode cX7_read 66 = .ok (.iconst 5, 1) := by decide +kernel
theorem dX7_read_67 : decode cX7_read 67 = .ok (.imul, 1) := by decide +kernel
theorem dX7_read_68 : decode cX7_read 68 = .ok (.iadd, 1) := by decide +kernel
theorem dX7_read_69 : decode cX7_read 69 = .ok (.istore 6, 2) := by decide +kernel
theorem dX7_read_71 : decode cX7_read 71 = .ok (.aload_n 3, 1) := by decide +kernel
theorem dX7_read_72 : decode cX7_read 72 = .ok (.getfield 37, 3) := by decide +kernel
theorem dX7_read_75 : decode cX7_read 75 = .ok (.iload 5, 2) := by decide +kernel
theorem dX7_read_77 : decode cX7_read 77 = .ok (.aaload, 1) := by decide +kernel
theorem dX7_read_78 : decode cX7_read 78 = .ok (.astore 7, 2) := by decide +kernel
theorem dX7_read_80 : decode cX7_read 80 = .ok (.aload 7, 2) := by decide +kernel
theorem dX7_read_82 : decode cX7_read 82 = .ok (.aload 4, 2) := by decide +kernel
theorem dX7_read_84 : decode cX7_read 84 = .ok (.iload 6, 2) := by decide +kernel
theorem dX7_read_86 : decode cX7_read 86 = .ok (.iconst 1, 1) := by decide +kernel
theorem dX7_read_87 : decode cX7_read 87 = .ok (.iadd, 1) := by decide +kernel
theorem dX7_read_88 : decode cX7_read 88 = .ok (.iaload, 1) := by decide +kernel
theorem dX7_read_89 : decode cX7_read 89 = .ok (.invokestatic 24, 3) := by decide +kernel
theorem dX7_read_92 : decode cX7_read 92 = .ok (.putfield 41, 3) := by decide +kernel
theorem dX7_read_95 : decode cX7_read 95 = .ok (.aload 7, 2) := by decide +kernel
theorem dX7_read_97 : decode cX7_read 97 = .ok (.aload 4, 2) := by decide +kernel
theorem dX7_read_99 : decode cX7_read 99 = .ok (.iload 6, 2) := by decide +kernel
theorem dX7_read_101 : decode cX7_read 101 = .ok (.iconst 2, 1) := by decide +kernel
theorem dX7_read_102 : decode cX7_read 102 = .ok (.iadd, 1) := by decide +kernel
theorem dX7_read_103 : decode cX7_read 103 = .ok (.iaload, 1) := by decide +kernel
theorem dX7_read_104 : decode cX7_read 104 = .ok (.bipush 48, 2) := by decide +kernel
theorem dX7_read_106 : decode cX7_read 106 = .ok (.isub, 1) := by decide +kernel
theorem dX7_read_107 : decode cX7_read 107 = .ok (.putfield 46, 3) := by decide +kernel
theorem dX7_read_110 : decode cX7_read 110 = .ok (.aload 7, 2) := by decide +kernel
theorem dX7_read_112 : decode cX7_read 112 = .ok (.aload 4, 2) := by decide +kernel
theorem dX7_read_114 : decode cX7_read 114 = .ok (.iload 6, 2) := by decide +kernel
theorem dX7_read_116 : decode cX7_read 116 = .ok (.iconst 3, 1) := by decide +kernel
theorem dX7_read_117 : decode cX7_read 117 = .ok (.iadd, 1) := by decide +kernel
theorem dX7_read_118 : decode cX7_read 118 = .ok (.iaload, 1) := by decide +kernel
theorem dX7_read_119 : decode cX7_read 119 = .ok (.bipush 48, 2) := by decide +kernel
theorem dX7_read_121 : decode cX7_read 121 = .ok (.isub, 1) := by decide +kernel
theorem dX7_read_122 : decode cX7_read 122 = .ok (.putfield 49, 3) := by decide +kernel
theorem dX7_read_125 : decode cX7_read 125 = .ok (.aload 7, 2) := by decide +kernel
theorem dX7_read_127 : decode cX7_read 127 = .ok (.aload 4, 2) := by decide +kernel
theorem dX7_read_129 : decode cX7_read 129 = .ok (.iload 6, 2) := by decide +kernel
theorem dX7_read_131 : decode cX7_read 131 = .ok (.iconst 4, 1) := by decide +kernel
theorem dX7_read_132 : decode cX7_read 132 = .ok (.iadd, 1) := by decide +kernel
theorem dX7_read_133 : decode cX7_read 133 = .ok (.iaload, 1) := by decide +kernel
theorem dX7_read_134 : decode cX7_read 134 = .ok (.bipush 48, 2) := by decide +kernel
theorem dX7_read_136 : decode cX7_read 136 = .ok (.isub, 1) := by decide +kernel
theorem dX7_read_137 : decode cX7_read 137 = .ok (.putfield 52, 3) := by decide +kernel
theorem dX7_read_140 : decode cX7_read 140 = .ok (.iinc 5 1, 3) := by decide +kernel
theorem dX7_read_143 : decode cX7_read 143 = .ok (.goto (-91), 3) := by decide +kernel
theorem dX7_read_146 : decode cX7_read 146 = .ok (.return_, 1) := by decide +kernel
theorem dX8_init_0 : decode cX8_init 0 = .ok (.aload_n 0, 1) := by decide +kernel
theorem dX8_init_1 : decode cX8_init 1 = .ok (.invokespecial 3, 3) := by decide +kernel
theorem dX8_init_4 : decode cX8_init 4 = .ok (.aload_n 0, 1) := by decide +kernel
theorem dX8_init_5 : decode cX8_init 5 = .ok (.iconst 0, 1) := by decide +kernel
theorem dX8_init_6 : decode cX8_init 6 = .ok (.putfield 9, 3) := by decide +kernel
theorem dX8_init_9 : decode cX8_init 9 = .ok (.aload_n 0, 1) := by decide +kernel
theorem dX8_init_10 : decode cX8_init 10 = .ok (.iconst 0, 1) := by decide +kernel
theorem dX8_init_11 : decode cX8_init 11 = .ok (.putfield 15, 3) := by decide +kernel
theorem dX8_init_14 : decode cX8_init 14 = .ok (.aload_n 0, 1) := by decide +kernel
theorem dX8_init_15 : decode cX8_init 15 = .ok (.iconst 0, 1) := by decide +kernel
theorem dX8_init_16 : decode cX8_init 16 = .ok (.putfield 18, 3) := by decide +kernel
theorem dX8_init_19 : decode cX8_init 19 = .ok (.aload_n 0, 1) := by decide +kernel
theorem dX8_init_20 : decode cX8_init 20 = .ok (.bipush (-9), 2) := by decide +kernel
theorem dX8_init_22 : decode cX8_init 22 = .ok (.putfield 21, 3) := by decide +kernel
theorem dX8_init_25 : decode cX8_init 25 = .ok (.return_, 1) := by decide +kernel
set_option maxRecDepth 20000 in
theorem ggX8_tells_X9_isBelow : GoodIn wsX8_tells wsX9_isBelow := goodIn_r _ [3] (by decide +kernel) (by decide +kernel)
set_option maxRecDepth 20000 in
theorem gX8_tells_X9_isBelow_n24 : GoodIn wsX8_tells (wsX9_isBelow) := ggX8_tells_X9_isBelow
set_option maxRecDepth 20000 in
theorem ggX8_tells_X8_isLearner : GoodIn wsX8_tells wsX8_isLearner := goodIn_r _ [7] (by decide +kernel) (by decide +kernel)
set_option maxRecDepth 20000 in
theorem gX8_tells_X8_isLearner : GoodIn wsX8_tells (va_wsS RX8 28 yX8_isLearner wsX8_isLearner) := goodIn_app (goodIn_of _ (by decide +kernel)) ggX8_tells_X8_isLearner
theorem dX8_tells_0 : decode cX8_tells 0 = .ok (.iload_n 0, 1) := by decide +kernel
theorem dX8_tells_1 : decode cX8_tells 1 = .ok (.iconst 5, 1) := by decide +kernel
theorem dX8_tells_2 : decode cX8_tells 2 = .ok (.invokestatic 24, 3) := by decide +kernel
theorem dX8_tells_5 : decode cX8_tells 5 = .ok (.ifCond .ne 10, 3) := by decide +kernel
theorem dX8_tells_8 : decode cX8_tells 8 = .ok (.iload_n 0, 1) := by decide +kernel
theorem dX8_tells_9 : decode cX8_tells 9 = .ok (.invokestatic 28, 3) := by decide +kernel
theorem dX8_tells_12 : decode cX8_tells 12 = .ok (.ifCond .eq 7, 3) := by decide +kernel
theorem dX8_tells_15 : decode cX8_tells 15 = .ok (.iconst 1, 1) := by decide +kernel
theorem dX8_tells_16 : decode cX8_tells 16 = .ok (.goto 4, 3) := by decide +kernel
theorem dX8_tells_19 : decode cX8_tells 19 = .ok (.iconst 0, 1) := by decide +kernel
theorem dX8_tells_20 : decode cX8_tells 20 = .ok (.ireturn, 1) := by decide +kernel
theorem dX8_isLearner_0 : decode cX8_isLearner 0 = .ok (.iload_n 0, 1) := by decide +kernel
theorem dX8_isLearner_1 : decode cX8_isLearner 1 = .ok (.bipush 10, 2) := by decide +kernel
theorem dX8_isLearner_3 : decode cX8_isLearner 3 = .ok (.if_icmp .lt 13, 3) := by decide +kernel
theorem dX8_isLearner_6 : decode cX8_isLearner 6 = .ok (.iload_n 0, 1) := by decide +kernel
theorem dX8_isLearner_7 : decode cX8_isLearner 7 = .ok (.bipush 16, 2) := by decide +kernel
theorem dX8_isLearner_9 : decode cX8_isLearner 9 = .ok (.if_icmp .ge 7, 3) := by decide +kernel
theorem dX8_isLearner_12 : decode cX8_isLearner 12 = .ok (.iconst 1, 1) := by decide +kernel
theorem dX8_isLearner_13 : decode cX8_isLearner 13 = .ok (.goto 4, 3) := by decide +kernel
theorem dX8_isLearner_16 : decode cX8_isLearner 16 = .ok (.iconst 0, 1) := by decide +kernel
theorem dX8_isLearner_17 : decode cX8_isLearner 17 = .ok (.ireturn, 1) := by decide +kernel
set_option maxRecDepth 20000 in
theorem ggX8_refusal_X8_pairRefusal : GoodIn wsX8_refusal wsX8_pairRefusal := goodIn_r _ [5, 6, 7, 8, 9, 10, 11, 12, 13, 14, 15, 16, 17, 18, 19, 20, 4, 21, 26, 27, 28] (by decide +kernel) (by decide +kernel)
set_option maxRecDepth 20000 in
theorem gX8_refusal_X8_pairRefusal : GoodIn wsX8_refusal (va_wsS RX8 38 yX8_pairRefusal wsX8_pairRefusal) := goodIn_app (goodIn_of _ (by decide +kernel)) ggX8_refusal_X8_pairRefusal
theorem dX8_refusal_0 : decode cX8_refusal 0 = .ok (.iconst 0, 1) := by decide +kernel
theorem dX8_refusal_1 : decode cX8_refusal 1 = .ok (.istore 4, 2) := by decide +kernel
theorem dX8_refusal_3 : decode cX8_refusal 3 = .ok (.iload 4, 2) := by decide +kernel
theorem dX8_refusal_5 : decode cX8_refusal 5 = .ok (.iload_n 2, 1) := by decide +kernel
theorem dX8_refusal_6 : decode cX8_refusal 6 = .ok (.if_icmp .ge 47, 3) := by decide +kernel
theorem dX8_refusal_9 : decode cX8_refusal 9 = .ok (.iload_n 1, 1) := by decide +kernel
theorem dX8_refusal_10 : decode cX8_refusal 10 = .ok (.iconst 2, 1) := by decide +kernel
theorem dX8_refusal_11 : decode cX8_refusal 11 = .ok (.iload 4, 2) := by decide +kernel
theorem dX8_refusal_13 : decode cX8_refusal 13 = .ok (.imul, 1) := by decide +kernel
theorem dX8_refusal_14 : decode cX8_refusal 14 = .ok (.iadd, 1) := by decide +kernel
theorem dX8_refusal_15 : decode cX8_refusal 15 = .ok (.istore 5, 2) := by decide +kernel
theorem dX8_refusal_17 : decode cX8_refusal 17 = .ok (.aload_n 0, 1) := by decide +kernel
theorem dX8_refusal_18 : decode cX8_refusal 18 = .ok (.getfield 32, 3) := by decide +kernel
theorem dX8_refusal_21 : decode cX8_refusal 21 = .ok (.iload 5, 2) := by decide +kernel
theorem dX8_refusal_23 : decode cX8_refusal 23 = .ok (.iaload, 1) := by decide +kernel
theorem dX8_refusal_24 : decode cX8_refusal 24 = .ok (.aload_n 0, 1) := by decide +kernel
theorem dX8_refusal_25 : decode cX8_refusal 25 = .ok (.getfield 32, 3) := by decide +kernel
theorem dX8_refusal_28 : decode cX8_refusal 28 = .ok (.iload 5, 2) := by decide +kernel
theorem dX8_refusal_30 : decode cX8_refusal 30 = .ok (.iconst 1, 1) := by decide +kernel
theorem dX8_refusal_31 : decode cX8_refusal 31 = .ok (.iadd, 1) := by decide +kernel
theorem dX8_refusal_32 : decode cX8_refusal 32 = .ok (.iaload, 1) := by decide +kernel
theorem dX8_refusal_33 : decode cX8_refusal 33 = .ok (.aload_n 3, 1) := by decide +kernel
theorem dX8_refusal_34 : decode cX8_refusal 34 = .ok (.invokestatic 38, 3) := by decide +kernel
theorem dX8_refusal_37 : decode cX8_refusal 37 = .ok (.istore 6, 2) := by decide +kernel
theorem dX8_refusal_39 : decode cX8_refusal 39 = .ok (.iload 6, 2) := by decide +kernel
theorem dX8_refusal_41 : decode cX8_refusal 41 = .ok (.ifCond .eq 6, 3) := by decide +kernel
theorem dX8_refusal_44 : decode cX8_refusal 44 = .ok (.iload 6, 2) := by decide +kernel
theorem dX8_refusal_46 : decode cX8_refusal 46 = .ok (.ireturn, 1) := by decide +kernel
theorem dX8_refusal_47 : decode cX8_refusal 47 = .ok (.iinc 4 1, 3) := by decide +kernel
theorem dX8_refusal_50 : decode cX8_refusal 50 = .ok (.goto (-47), 3) := by decide +kernel
theorem dX8_refusal_53 : decode cX8_refusal 53 = .ok (.iconst 0, 1) := by decide +kernel
theorem dX8_refusal_54 : decode cX8_refusal 54 = .ok (.ireturn, 1) := by decide +kernel
set_option maxRecDepth 20000 in
theorem ggX8_pairRefusal_X4_hasMatter : GoodIn wsX8_pairRefusal wsX4_hasMatter := goodIn_r _ [5, 6, 7, 8, 9, 18, 19, 20] (by decide +kernel) (by decide +kernel)
set_option maxRecDepth 20000 in
theorem gX8_pairRefusal_X4_hasMatter : GoodIn wsX8_pairRefusal (wsV RX8 42 RX4 yX4_hasMatter wsX4_hasMatter) := goodIn_app (goodIn_of _ (by decide +kernel)) ggX8_pairRefusal_X4_hasMatter
set_option maxRecDepth 20000 in
theorem ggX8_pairRefusal_X4_hasPerson : GoodIn wsX8_pairRefusal wsX4_hasPerson := goodIn_r _ [13, 6, 7, 8, 9, 18, 19, 20] (by decide +kernel) (by decide +kernel)
set_option maxRecDepth 20000 in
theorem gX8_pairRefusal_X4_hasPerson : GoodIn wsX8_pairRefusal (wsV RX8 47 RX4 yX4_hasPerson wsX4_hasPerson) := goodIn_app (goodIn_of _ (by decide +kernel)) ggX8_pairRefusal_X4_hasPerson
set_option maxRecDepth 20000 in
theorem ggX8_pairRefusal_X8_isLearner : GoodIn wsX8_pairRefusal wsX8_isLearner := goodIn_r _ [17] (by decide +kernel) (by decide +kernel)
set_option maxRecDepth 20000 in
theorem gX8_pairRefusal_X8_isLearner : GoodIn wsX8_pairRefusal (va_wsS RX8 28 yX8_isLearner wsX8_isLearner) := goodIn_app (goodIn_of _ (by decide +kernel)) ggX8_pairRefusal_X8_isLearner
set_option maxRecDepth 20000 in
theorem ggX8_pairRefusal_X9_isBelow : GoodIn wsX8_pairRefusal wsX9_isBelow := goodIn_r _ [9] (by decide +kernel) (by decide +kernel)
set_option maxRecDepth 20000 in
theorem gX8_pairRefusal_X9_isBelow_n24 : GoodIn wsX8_pairRefusal (wsX9_isBelow) := ggX8_pairRefusal_X9_isBelow
theorem dX8_pairRefusal_0 : decode cX8_pairRefusal 0 = .ok (.iload_n 1, 1) := by decide +kernel
theorem dX8_pairRefusal_1 : decode cX8_pairRefusal 1 = .ok (.ifCond .ne 17, 3) := by decide +kernel
theorem dX8_pairRefusal_4 : decode cX8_pairRefusal 4 = .ok (.aload_n 2, 1) := by decide +kernel
theorem dX8_pairRefusal_5 : decode cX8_pairRefusal 5 = .ok (.iload_n 0, 1) := by decide +kernel
theorem dX8_pairRefusal_6 : decode cX8_pairRefusal 6 = .ok (.invokevirtual 42, 3) := by decide +kernel
theorem dX8_pairRefusal_9 : decode cX8_pairRefusal 9 = .ok (.ifCond .eq 7, 3) := by decide +kernel
theorem dX8_pairRefusal_12 : decode cX8_pairRefusal 12 = .ok (.iconst 0, 1) := by decide +kernel
theorem dX8_pairRefusal_13 : decode cX8_pairRefusal 13 = .ok (.goto 4, 3) := by decide +kernel
theorem dX8_pairRefusal_16 : decode cX8_pairRefusal 16 = .ok (.iconst (-1), 1) := by decide +kernel
theorem dX8_pairRefusal_17 : decode cX8_pairRefusal 17 = .ok (.ireturn, 1) := by decide +kernel
theorem dX8_pairRefusal_18 : decode cX8_pairRefusal 18 = .ok (.iload_n 1, 1) := by decide +kernel
theorem dX8_pairRefusal_19 : decode cX8_pairRefusal 19 = .ok (.iconst 1, 1) := by decide +kernel
theorem dX8_pairRefusal_20 : decode cX8_pairRefusal 20 = .ok (.if_icmp .ne 17, 3) := by decide +kernel
theorem dX8_pairRefusal_23 : decode cX8_pairRefusal 23 = .ok (.aload_n 2, 1) := by decide +kernel
theorem dX8_pairRefusal_24 : decode cX8_pairRefusal 24 = .ok (.iload_n 0, 1) := by decide +kernel
theorem dX8_pairRefusal_25 : decode cX8_pairRefusal 25 = .ok (.invokevirtual 47, 3) := by decide +kernel
theorem dX8_pairRefusal_28 : decode cX8_pairRefusal 28 = .ok (.ifCond .eq 7, 3) := by decide +kernel
theorem dX8_pairRefusal_31 : decode cX8_pairRefusal 31 = .ok (.iconst 0, 1) := by decide +kernel
theorem dX8_pairRefusal_32 : decode cX8_pairRefusal 32 = .ok (.goto 4, 3) := by decide +kernel
theorem dX8_pairRefusal_35 : decode cX8_pairRefusal 35 = .ok (.iconst (-1), 1) := by decide +kernel
theorem dX8_pairRefusal_36 : decode cX8_pairRefusal 36 = .ok (.ireturn, 1) := by decide +kernel
theorem dX8_pairRefusal_37 : decode cX8_pairRefusal 37 = .ok (.iload_n 1, 1) := by decide +kernel
theorem dX8_pairRefusal_38 : decode cX8_pairRefusal 38 = .ok (.invokestatic 28, 3) := by decide +kernel
theorem dX8_pairRefusal_41 : decode cX8_pairRefusal 41 = .ok (.ifCond .eq 16, 3) := by decide +kernel
theorem dX8_pairRefusal_44 : decode cX8_pairRefusal 44 = .ok (.iload_n 0, 1) := by decide +kernel
theorem dX8_pairRefusal_45 : decode cX8_pairRefusal 45 = .ok (.bipush 8, 2) := by decide +kernel
theorem dX8_pairRefusal_47 : decode cX8_pairRefusal 47 = .ok (.invokestatic 24, 3) := by decide +kernel
theorem dX8_pairRefusal_50 : decode cX8_pairRefusal 50 = .ok (.ifCond .eq 7, 3) := by decide +kernel
theorem dX8_pairRefusal_53 : decode cX8_pairRefusal 53 = .ok (.iconst 0, 1) := by decide +kernel
theorem dX8_pairRefusal_54 : decode cX8_pairRefusal 54 = .ok (.goto 5, 3) := by decide +kernel
theorem dX8_pairRefusal_57 : decode cX8_pairRefusal 57 = .ok (.bipush (-2), 2) := by decide +kernel
theorem dX8_pairRefusal_59 : decode cX8_pairRefusal 59 = .ok (.ireturn, 1) := by decide +kernel
set_option maxRecDepth 20000 in
theorem ggX8_go_X8_isDone : GoodIn wsX8_go wsX8_isDone := goodIn_r _ [10, 11, 12, 13, 14, 15, 16, 9, 17, 1, 2, 3, 18, 19, 20, 21, 22, 23, 24, 25, 26, 27, 28, 29, 30, 31, 32, 33, 34, 35, 36, 37, 38, 39, 40, 41, 42, 43, 44, 45, 46, 47, 48, 49, 50, 59, 60, 61, 62, 63, 64, 65, 51, 52, 53, 54] (by decide +kernel) (by decide +kernel)
set_option maxRecDepth 20000 in
theorem gX8_go_X8_isDone : GoodIn wsX8_go (wsV RX8 50 RX8 yX8_isDone wsX8_isDone) := goodIn_app (goodIn_of _ (by decide +kernel)) ggX8_go_X8_isDone
theorem dX8_go_0 : decode cX8_go 0 = .ok (.aload_n 0, 1) := by decide +kernel
theorem dX8_go_1 : decode cX8_go 1 = .ok (.iconst 0, 1) := by decide +kernel
theorem dX8_go_2 : decode cX8_go 2 = .ok (.putfield 9, 3) := by decide +kernel
theorem dX8_go_5 : decode cX8_go 5 = .ok (.aload_n 0, 1) := by decide +kernel
theorem dX8_go_6 : decode cX8_go 6 = .ok (.iconst 0, 1) := by decide +kernel
theorem dX8_go_7 : decode cX8_go 7 = .ok (.putfield 15, 3) := by decide +kernel
theorem dX8_go_10 : decode cX8_go 10 = .ok (.aload_n 0, 1) := by decide +kernel
theorem dX8_go_11 : decode cX8_go 11 = .ok (.iconst 0, 1) := by decide +kernel
theorem dX8_go_12 : decode cX8_go 12 = .ok (.putfield 18, 3) := by decide +kernel
theorem dX8_go_15 : decode cX8_go 15 = .ok (.aload_n 0, 1) := by decide +kernel
theorem dX8_go_16 : decode cX8_go 16 = .ok (.bipush (-9), 2) := by decide +kernel
theorem dX8_go_18 : decode cX8_go 18 = .ok (.putfield 21, 3) := by decide +kernel
theorem dX8_go_21 : decode cX8_go 21 = .ok (.iconst 0, 1) := by decide +kernel
theorem dX8_go_22 : decode cX8_go 22 = .ok (.istore 5, 2) := by decide +kernel
theorem dX8_go_24 : decode cX8_go 24 = .ok (.iload 5, 2) := by decide +kernel
theorem dX8_go_26 : decode cX8_go 26 = .ok (.iload_n 3, 1) := by decide +kernel
theorem dX8_go_27 : decode cX8_go 27 = .ok (.if_icmp .ge 57, 3) := by decide +kernel
theorem dX8_go_30 : decode cX8_go 30 = .ok (.aload_n 0, 1) := by decide +kernel
theorem dX8_go_31 : decode cX8_go 31 = .ok (.getfield 21, 3) := by decide +kernel
theorem dX8_go_34 : decode cX8_go 34 = .ok (.bipush (-9), 2) := by decide +kernel
theorem dX8_go_36 : decode cX8_go 36 = .ok (.if_icmp .ne 48, 3) := by decide +kernel
theorem dX8_go_39 : decode cX8_go 39 = .ok (.iload_n 2, 1) := by decide +kernel
theorem dX8_go_40 : decode cX8_go 40 = .ok (.iconst 2, 1) := by decide +kernel
theorem dX8_go_41 : decode cX8_go 41 = .ok (.iload 5, 2) := by decide +kernel
theorem dX8_go_43 : decode cX8_go 43 = .ok (.imul, 1) := by decide +kernel
theorem dX8_go_44 : decode cX8_go 44 = .ok (.iadd, 1) := by decide +kernel
theorem dX8_go_45 : decode cX8_go 45 = .ok (.istore 6, 2) := by decide +kernel
theorem dX8_go_47 : decode cX8_go 47 = .ok (.aload_n 0, 1) := by decide +kernel
theorem dX8_go_48 : decode cX8_go 48 = .ok (.aload_n 1, 1) := by decide +kernel
theorem dX8_go_49 : decode cX8_go 49 = .ok (.getfield 32, 3) := by decide +kernel
theorem dX8_go_52 : decode cX8_go 52 = .ok (.iload 6, 2) := by decide +kernel
theorem dX8_go_54 : decode cX8_go 54 = .ok (.iaload, 1) := by decide +kernel
theorem dX8_go_55 : decode cX8_go 55 = .ok (.aload_n 1, 1) := by decide +kernel
theorem dX8_go_56 : decode cX8_go 56 = .ok (.getfield 32, 3) := by decide +kernel
theorem dX8_go_59 : decode cX8_go 59 = .ok (.iload 6, 2) := by decide +kernel
theorem dX8_go_61 : decode cX8_go 61 = .ok (.iconst 1, 1) := by decide +kernel
theorem dX8_go_62 : decode cX8_go 62 = .ok (.iadd, 1) := by decide +kernel
theorem dX8_go_63 : decode cX8_go 63 = .ok (.iaload, 1) := by decide +kernel
theorem dX8_go_64 : decode cX8_go 64 = .ok (.aload 4, 2) := by decide +kernel
theorem dX8_go_66 : decode cX8_go 66 = .ok (.invokevirtual 50, 3) := by decide +kernel
theorem dX8_go_69 : decode cX8_go 69 = .ok (.ifCond .ne 9, 3) := by decide +kernel
theorem dX8_go_72 : decode cX8_go 72 = .ok (.aload_n 0, 1) := by decide +kernel
theorem dX8_go_73 : decode cX8_go 73 = .ok (.iload 5, 2) := by decide +kernel
theorem dX8_go_75 : decode cX8_go 75 = .ok (.putfield 21, 3) := by decide +kernel
theorem dX8_go_78 : decode cX8_go 78 = .ok (.iinc 5 1, 3) := by decide +kernel
theorem dX8_go_81 : decode cX8_go 81 = .ok (.goto (-57), 3) := by decide +kernel
theorem dX8_go_84 : decode cX8_go 84 = .ok (.return_, 1) := by decide +kernel
set_option maxRecDepth 20000 in
theorem ggX8_isDone_X8_ask : GoodIn wsX8_isDone wsX8_ask := goodIn_r _ [8, 1, 2, 9, 10, 11, 12, 13, 14, 15, 16, 17, 18, 19, 20, 21, 22, 23, 24, 25, 26, 27, 28, 29, 30, 31, 32, 33, 34, 35, 36, 37, 45, 46, 47, 48, 49, 50, 51, 52, 53, 54, 55] (by decide +kernel) (by decide +kernel)
set_option maxRecDepth 20000 in
theorem gX8_isDone_X8_ask : GoodIn wsX8_isDone (wsV RX8 54 RX8 yX8_ask wsX8_ask) := goodIn_app (goodIn_of _ (by decide +kernel)) ggX8_isDone_X8_ask
set_option maxRecDepth 20000 in
theorem ggX8_isDone_X4_hasPerson : GoodIn wsX8_isDone wsX4_hasPerson := goodIn_r _ [41, 17, 42, 43, 44, 45, 46, 47] (by decide +kernel) (by decide +kernel)
set_option maxRecDepth 20000 in
theorem gX8_isDone_X4_hasPerson : GoodIn wsX8_isDone (wsV RX8 47 RX4 yX4_hasPerson wsX4_hasPerson) := goodIn_app (goodIn_of _ (by decide +kernel)) ggX8_isDone_X4_hasPerson
set_option maxRecDepth 20000 in
theorem ggX8_isDone_X4_first : GoodIn wsX8_isDone wsX4_first := goodIn_r _ [16, 17, 18, 19, 45, 46, 47, 48, 49, 50, 51] (by decide +kernel) (by decide +kernel)
set_option maxRecDepth 20000 in
theorem gX8_isDone_X4_first : GoodIn wsX8_isDone (wsV RX8 58 RX4 yX4_first wsX4_first) := goodIn_app (goodIn_of _ (by decide +kernel)) ggX8_isDone_X4_first
theorem dX8_isDone_0 : decode cX8_isDone 0 = .ok (.iload_n 2, 1) := by decide +kernel
theorem dX8_isDone_1 : decode cX8_isDone 1 = .ok (.ifCond .ne 11, 3) := by decide +kernel
theorem dX8_isDone_4 : decode cX8_isDone 4 = .ok (.aload_n 0, 1) := by decide +kernel
theorem dX8_isDone_5 : decode cX8_isDone 5 = .ok (.iload_n 1, 1) := by decide +kernel
theorem dX8_isDone_6 : decode cX8_isDone 6 = .ok (.aload_n 3, 1) := by decide +kernel
theorem dX8_isDone_7 : decode cX8_isDone 7 = .ok (.invokevirtual 54, 3) := by decide +kernel
theorem dX8_isDone_10 : decode cX8_isDone 10 = .ok (.iconst 1, 1) := by decide +kernel
theorem dX8_isDone_11 : decode cX8_isDone 11 = .ok (.ireturn, 1) := by decide +kernel
theorem dX8_isDone_12 : decode cX8_isDone 12 = .ok (.iload_n 2, 1) := by decide +kernel
theorem dX8_isDone_13 : decode cX8_isDone 13 = .ok (.iconst 1, 1) := by decide +kernel
theorem dX8_isDone_14 : decode cX8_isDone 14 = .ok (.if_icmp .ne 7, 3) := by decide +kernel
theorem dX8_isDone_17 : decode cX8_isDone 17 = .ok (.iload_n 1, 1) := by decide +kernel
theorem dX8_isDone_18 : decode cX8_isDone 18 = .ok (.goto 7, 3) := by decide +kernel
theorem dX8_isDone_21 : decode cX8_isDone 21 = .ok (.iload_n 2, 1) := by decide +kernel
theorem dX8_isDone_22 : decode cX8_isDone 22 = .ok (.bipush 10, 2) := by decide +kernel
theorem dX8_isDone_24 : decode cX8_isDone 24 = .ok (.isub, 1) := by decide +kernel
theorem dX8_isDone_25 : decode cX8_isDone 25 = .ok (.istore 4, 2) := by decide +kernel
theorem dX8_isDone_27 : decode cX8_isDone 27 = .ok (.aload_n 3, 1) := by decide +kernel
theorem dX8_isDone_28 : decode cX8_isDone 28 = .ok (.iload 4, 2) := by decide +kernel
theorem dX8_isDone_30 : decode cX8_isDone 30 = .ok (.invokevirtual 47, 3) := by decide +kernel
theorem dX8_isDone_33 : decode cX8_isDone 33 = .ok (.ifCond .eq 17, 3) := by decide +kernel
theorem dX8_isDone_36 : decode cX8_isDone 36 = .ok (.iload_n 2, 1) := by decide +kernel
theorem dX8_isDone_37 : decode cX8_isDone 37 = .ok (.iconst 1, 1) := by decide +kernel
theorem dX8_isDone_38 : decode cX8_isDone 38 = .ok (.if_icmp .ne 14, 3) := by decide +kernel
theorem dX8_isDone_41 : decode cX8_isDone 41 = .ok (.aload_n 3, 1) := by decide +kernel
theorem dX8_isDone_42 : decode cX8_isDone 42 = .ok (.invokevirtual 58, 3) := by decide +kernel
theorem dX8_isDone_45 : decode cX8_isDone 45 = .ok (.iload 4, 2) := by decide +kernel
theorem dX8_isDone_47 : decode cX8_isDone 47 = .ok (.if_icmp .eq 5, 3) := by decide +kernel
theorem dX8_isDone_50 : decode cX8_isDone 50 = .ok (.iconst 0, 1) := by decide +kernel
theorem dX8_isDone_51 : decode cX8_isDone 51 = .ok (.ireturn, 1) := by decide +kernel
theorem dX8_isDone_52 : decode cX8_isDone 52 = .ok (.iload_n 2, 1) := by decide +kernel
theorem dX8_isDone_53 : decode cX8_isDone 53 = .ok (.iconst 1, 1) := by decide +kernel
theorem dX8_isDone_54 : decode cX8_isDone 54 = .ok (.if_icmp .ne 22, 3) := by decide +kernel
theorem dX8_isDone_57 : decode cX8_isDone 57 = .ok (.aload_n 3, 1) := by decide +kernel
theorem dX8_isDone_58 : decode cX8_isDone 58 = .ok (.getfield 62, 3) := by decide +kernel
theorem dX8_isDone_61 : decode cX8_isDone 61 = .ok (.iload 4, 2) := by decide +kernel
theorem dX8_isDone_63 : decode cX8_isDone 63 = .ok (.aaload, 1) := by decide +kernel
theorem dX8_isDone_64 : decode cX8_isDone 64 = .ok (.dup, 1) := by decide +kernel
theorem dX8_isDone_65 : decode cX8_isDone 65 = .ok (.getfield 66, 3) := by decide +kernel
theorem dX8_isDone_68 : decode cX8_isDone 68 = .ok (.iconst 1, 1) := by decide +kernel
theorem dX8_isDone_69 : decode cX8_isDone 69 = .ok (.iadd, 1) := by decide +kernel
theorem dX8_isDone_70 : decode cX8_isDone 70 = .ok (.putfield 66, 3) := by decide +kernel
theorem dX8_isDone_73 : decode cX8_isDone 73 = .ok (.goto 14, 3) := by decide +kernel
theorem dX8_isDone_76 : decode cX8_isDone 76 = .ok (.aload_n 3, 1) := by decide +kernel
theorem dX8_isDone_77 : decode cX8_isDone 77 = .ok (.getfield 62, 3) := by decide +kernel
theorem dX8_isDone_80 : decode cX8_isDone 80 = .ok (.iload 4, 2) := by decide +kernel
theorem dX8_isDone_82 : decode cX8_isDone 82 = .ok (.aaload, 1) := by decide +kernel
theorem dX8_isDone_83 : decode cX8_isDone 83 = .ok (.iload_n 1, 1) := by decide +kernel
theorem dX8_isDone_84 : decode cX8_isDone 84 = .ok (.putfield 71, 3) := by decide +kernel
theorem dX8_isDone_87 : decode cX8_isDone 87 = .ok (.iconst 1, 1) := by decide +kernel
theorem dX8_isDone_88 : decode cX8_isDone 88 = .ok (.ireturn, 1) := by decide +kernel
set_option maxRecDepth 20000 in
theorem ggX8_ask_X4_first : GoodIn wsX8_ask wsX4_first := goodIn_r _ [10, 11, 12, 13, 32, 33, 34, 35, 36, 37, 38] (by decide +kernel) (by decide +kernel)
set_option maxRecDepth 20000 in
theorem gX8_ask_X4_first : GoodIn wsX8_ask (wsV RX8 58 RX4 yX4_first wsX4_first) := goodIn_app (goodIn_of _ (by decide +kernel)) ggX8_ask_X4_first
set_option maxRecDepth 20000 in
theorem ggX8_ask_X4_bringing : GoodIn wsX8_ask wsX4_bringing := goodIn_r _ [17, 12, 18, 19, 20, 21, 22, 23, 24, 25, 26, 27, 28, 29, 30, 32, 33, 34, 35, 36, 37, 38] (by decide +kernel) (by decide +kernel)
set_option maxRecDepth 20000 in
theorem gX8_ask_X4_bringing : GoodIn wsX8_ask (wsV RX8 74 RX4 yX4_bringing wsX4_bringing) := goodIn_app (goodIn_of _ (by decide +kernel)) ggX8_ask_X4_bringing
set_option maxRecDepth 20000 in
theorem ggX8_ask_X2_isKnowing : GoodIn wsX8_ask wsX2_isKnowing := goodIn_r _ [29, 30, 35, 36, 37, 38] (by decide +kernel) (by decide +kernel)
set_option maxRecDepth 20000 in
theorem gX8_ask_X2_isKnowing : GoodIn wsX8_ask (wsV RX8 78 RX2 yX2_isKnowing wsX2_isKnowing) := goodIn_app (goodIn_of _ (by decide +kernel)) ggX8_ask_X2_isKnowing
theorem dX8_ask_0 : decode cX8_ask 0 = .ok (.aload_n 2, 1) := by decide +kernel
theorem dX8_ask_1 : decode cX8_ask 1 = .ok (.invokevirtual 58, 3) := by decide +kernel
theorem dX8_ask_4 : decode cX8_ask 4 = .ok (.istore_n 3, 1) := by decide +kernel
theorem dX8_ask_5 : decode cX8_ask 5 = .ok (.aload_n 2, 1) := by decide +kernel
theorem dX8_ask_6 : decode cX8_ask 6 = .ok (.getfield 62, 3) := by decide +kernel
theorem dX8_ask_9 : decode cX8_ask 9 = .ok (.iload_n 3, 1) := by decide +kernel
theorem dX8_ask_10 : decode cX8_ask 10 = .ok (.aaload, 1) := by decide +kernel
theorem dX8_ask_11 : decode cX8_ask 11 = .ok (.dup, 1) := by decide +kernel
theorem dX8_ask_12 : decode cX8_ask 12 = .ok (.getfield 66, 3) := by decide +kernel
theorem dX8_ask_15 : decode cX8_ask 15 = .ok (.iconst 1, 1) := by decide +kernel
theorem dX8_ask_16 : decode cX8_ask 16 = .ok (.iadd, 1) := by decide +kernel
theorem dX8_ask_17 : decode cX8_ask 17 = .ok (.putfield 66, 3) := by decide +kernel
theorem dX8_ask_20 : decode cX8_ask 20 = .ok (.aload_n 0, 1) := by decide +kernel
theorem dX8_ask_21 : decode cX8_ask 21 = .ok (.dup, 1) := by decide +kernel
theorem dX8_ask_22 : decode cX8_ask 22 = .ok (.getfield 9, 3) := by decide +kernel
theorem dX8_ask_25 : decode cX8_ask 25 = .ok (.aload_n 2, 1) := by decide +kernel
theorem dX8_ask_26 : decode cX8_ask 26 = .ok (.iload_n 3, 1) := by decide +kernel
theorem dX8_ask_27 : decode cX8_ask 27 = .ok (.iload_n 1, 1) := by decide +kernel
theorem dX8_ask_28 : decode cX8_ask 28 = .ok (.invokevirtual 74, 3) := by decide +kernel
theorem dX8_ask_31 : decode cX8_ask 31 = .ok (.iadd, 1) := by decide +kernel
theorem dX8_ask_32 : decode cX8_ask 32 = .ok (.putfield 9, 3) := by decide +kernel
theorem dX8_ask_35 : decode cX8_ask 35 = .ok (.aload_n 0, 1) := by decide +kernel
theorem dX8_ask_36 : decode cX8_ask 36 = .ok (.dup, 1) := by decide +kernel
theorem dX8_ask_37 : decode cX8_ask 37 = .ok (.getfield 15, 3) := by decide +kernel
theorem dX8_ask_40 : decode cX8_ask 40 = .ok (.iconst 1, 1) := by decide +kernel
theorem dX8_ask_41 : decode cX8_ask 41 = .ok (.iload_n 3, 1) := by decide +kernel
theorem dX8_ask_42 : decode cX8_ask 42 = .ok (.ishl, 1) := by decide +kernel
theorem dX8_ask_43 : decode cX8_ask 43 = .ok (.ior, 1) := by decide +kernel
theorem dX8_ask_44 : decode cX8_ask 44 = .ok (.putfield 15, 3) := by decide +kernel
theorem dX8_ask_47 : decode cX8_ask 47 = .ok (.aload_n 2, 1) := by decide +kernel
theorem dX8_ask_48 : decode cX8_ask 48 = .ok (.getfield 62, 3) := by decide +kernel
theorem dX8_ask_51 : decode cX8_ask 51 = .ok (.iload_n 3, 1) := by decide +kernel
theorem dX8_ask_52 : decode cX8_ask 52 = .ok (.aaload, 1) := by decide +kernel
theorem dX8_ask_53 : decode cX8_ask 53 = .ok (.iload_n 1, 1) := by decide +kernel
theorem dX8_ask_54 : decode cX8_ask 54 = .ok (.invokevirtual 78, 3) := by decide +kernel
theorem dX8_ask_57 : decode cX8_ask 57 = .ok (.ifCond .eq 13, 3) := by decide +kernel
theorem dX8_ask_60 : decode cX8_ask 60 = .ok (.aload_n 0, 1) := by decide +kernel
theorem dX8_ask_61 : decode cX8_ask 61 = .ok (.dup, 1) := by decide +kernel
theorem dX8_ask_62 : decode cX8_ask 62 = .ok (.getfield 18, 3) := by decide +kernel
theorem dX8_ask_65 : decode cX8_ask 65 = .ok (.iconst 1, 1) := by decide +kernel
theorem dX8_ask_66 : decode cX8_ask 66 = .ok (.iadd, 1) := by decide +kernel
theorem dX8_ask_67 : decode cX8_ask 67 = .ok (.putfield 18, 3) := by decide +kernel
theorem dX8_ask_70 : decode cX8_ask 70 = .ok (.return_, 1) := by decide +kernel
set_option maxRecDepth 20000 in
theorem ggX8_answer_X4_first : GoodIn wsX8_answer wsX4_first := goodIn_r _ [11, 12, 13, 14, 26, 27, 28, 29, 30, 31, 32] (by decide +kernel) (by decide +kernel)
set_option maxRecDepth 20000 in
theorem gX8_answer_X4_first : GoodIn wsX8_answer (wsV RX8 58 RX4 yX4_first wsX4_first) := goodIn_app (goodIn_of _ (by decide +kernel)) ggX8_answer_X4_first
set_option maxRecDepth 20000 in
theorem ggX8_answer_X4_hasPerson : GoodIn wsX8_answer wsX4_hasPerson := goodIn_r _ [18, 12, 19, 20, 21, 26, 27, 28] (by decide +kernel) (by decide +kernel)
set_option maxRecDepth 20000 in
theorem gX8_answer_X4_hasPerson : GoodIn wsX8_answer (wsV RX8 47 RX4 yX4_hasPerson wsX4_hasPerson) := goodIn_app (goodIn_of _ (by decide +kernel)) ggX8_answer_X4_hasPerson
theorem dX8_answer_0 : decode cX8_answer 0 = .ok (.iload_n 1, 1) := by decide +kernel
theorem dX8_answer_1 : decode cX8_answer 1 = .ok (.iconst 1, 1) := by decide +kernel
theorem dX8_answer_2 : decode cX8_answer 2 = .ok (.if_icmp .ne 8, 3) := by decide +kernel
theorem dX8_answer_5 : decode cX8_answer 5 = .ok (.aload_n 0, 1) := by decide +kernel
theorem dX8_answer_6 : decode cX8_answer 6 = .ok (.getfield 21, 3) := by decide +kernel
theorem dX8_answer_9 : decode cX8_answer 9 = .ok (.ireturn, 1) := by decide +kernel
theorem dX8_answer_10 : decode cX8_answer 10 = .ok (.aload_n 0, 1) := by decide +kernel
theorem dX8_answer_11 : decode cX8_answer 11 = .ok (.getfield 21, 3) := by decide +kernel
theorem dX8_answer_14 : decode cX8_answer 14 = .ok (.bipush (-9), 2) := by decide +kernel
theorem dX8_answer_16 : decode cX8_answer 16 = .ok (.if_icmp .eq 11, 3) := by decide +kernel
theorem dX8_answer_19 : decode cX8_answer 19 = .ok (.bipush (-100), 2) := by decide +kernel
theorem dX8_answer_21 : decode cX8_answer 21 = .ok (.aload_n 0, 1) := by decide +kernel
theorem dX8_answer_22 : decode cX8_answer 22 = .ok (.getfield 21, 3) := by decide +kernel
theorem dX8_answer_25 : decode cX8_answer 25 = .ok (.isub, 1) := by decide +kernel
theorem dX8_answer_26 : decode cX8_answer 26 = .ok (.ireturn, 1) := by decide +kernel
theorem dX8_answer_27 : decode cX8_answer 27 = .ok (.iload_n 1, 1) := by decide +kernel
theorem dX8_answer_28 : decode cX8_answer 28 = .ok (.tableswitch 56 0 4 #[36, 56, 41, 46, 51], 36) := by decide +kernel
theorem dX8_answer_64 : decode cX8_answer 64 = .ok (.aload_n 0, 1) := by decide +kernel
theorem dX8_answer_65 : decode cX8_answer 65 = .ok (.getfield 9, 3) := by decide +kernel
theorem dX8_answer_68 : decode cX8_answer 68 = .ok (.ireturn, 1) := by decide +kernel
theorem dX8_answer_69 : decode cX8_answer 69 = .ok (.aload_n 0, 1) := by decide +kernel
theorem dX8_answer_70 : decode cX8_answer 70 = .ok (.getfield 15, 3) := by decide +kernel
theorem dX8_answer_73 : decode cX8_answer 73 = .ok (.ireturn, 1) := by decide +kernel
theorem dX8_answer_74 : decode cX8_answer 74 = .ok (.aload_n 0, 1) := by decide +kernel
theorem dX8_answer_75 : decode cX8_answer 75 = .ok (.getfield 18, 3) := by decide +kernel
theorem dX8_answer_78 : decode cX8_answer 78 = .ok (.ireturn, 1) := by decide +kernel
theorem dX8_answer_79 : decode cX8_answer 79 = .ok (.aload_n 2, 1) := by decide +kernel
theorem dX8_answer_80 : decode cX8_answer 80 = .ok (.invokevirtual 58, 3) := by decide +kernel
theorem dX8_answer_83 : decode cX8_answer 83 = .ok (.ireturn, 1) := by decide +kernel
theorem dX8_answer_84 : decode cX8_answer 84 = .ok (.aload_n 2, 1) := by decide +kernel
theorem dX8_answer_85 : decode cX8_answer 85 = .ok (.iload_n 1, 1) := by decide +kernel
theorem dX8_answer_86 : decode cX8_answer 86 = .ok (.bipush 10, 2) := by decide +kernel
theorem dX8_answer_88 : decode cX8_answer 88 = .ok (.isub, 1) := by decide +kernel
theorem dX8_answer_89 : decode cX8_answer 89 = .ok (.invokevirtual 47, 3) := by decide +kernel
theorem dX8_answer_92 : decode cX8_answer 92 = .ok (.ifCond .eq 18, 3) := by decide +kernel
theorem dX8_answer_95 : decode cX8_answer 95 = .ok (.aload_n 2, 1) := by decide +kernel
theorem dX8_answer_96 : decode cX8_answer 96 = .ok (.getfield 62, 3) := by decide +kernel
theorem dX8_answer_99 : decode cX8_answer 99 = .ok (.iload_n 1, 1) := by decide +kernel
theorem dX8_answer_100 : decode cX8_answer 100 = .ok (.bipush 10, 2) := by decide +kernel
theorem dX8_answer_102 : decode cX8_answer 102 = .ok (.isub, 1) := by decide +kernel
theorem dX8_answer_103 : decode cX8_answer 103 = .ok (.aaload, 1) := by decide +kernel
theorem dX8_answer_104 : decode cX8_answer 104 = .ok (.getfield 66, 3) := by decide +kernel
theorem dX8_answer_107 : decode cX8_answer 107 = .ok (.goto 5, 3) := by decide +kernel
theorem dX8_answer_110 : decode cX8_answer 110 = .ok (.bipush (-9), 2) := by decide +kernel
theorem dX8_answer_112 : decode cX8_answer 112 = .ok (.ireturn, 1) := by decide +kernel
set_option maxRecDepth 20000 in
theorem ggX9_init_X4_init : GoodIn wsX9_init wsX4_init := goodIn_r _ [38, 39, 2, 3, 40, 41, 42, 43, 44, 45, 46, 47, 48, 49, 50, 51, 52, 53, 103, 104, 105, 126, 127, 128, 129] (by decide +kernel) (by decide +kernel)
set_option maxRecDepth 20000 in
theorem gX9_init_X4_init : GoodIn wsX9_init (wsX4_init) := ggX9_init_X4_init
set_option maxRecDepth 20000 in
theorem ggX9_init_X8_init : GoodIn wsX9_init wsX8_init := goodIn_r _ [55, 56, 2, 3, 57, 58, 59, 60, 106, 107, 108, 109] (by decide +kernel) (by decide +kernel)
set_option maxRecDepth 20000 in
theorem gX9_init_X8_init_n29 : GoodIn wsX9_init (wsX8_init) := ggX9_init_X8_init
set_option maxRecDepth 20000 in
theorem ggX9_init_X3_init : GoodIn wsX9_init wsX3_init := goodIn_r _ [62, 63, 2, 3, 40, 64, 65, 66, 67, 68, 110, 111, 112, 113, 114] (by decide +kernel) (by decide +kernel)
set_option maxRecDepth 20000 in
theorem gX9_init_X3_init_n36 : GoodIn wsX9_init (wsX3_init) := ggX9_init_X3_init
set_option maxRecDepth 20000 in
theorem ggX9_init_X1_init : GoodIn wsX9_init wsX1_init := goodIn_r _ [70, 71, 2, 3, 40, 72, 73, 115, 116] (by decide +kernel) (by decide +kernel)
set_option maxRecDepth 20000 in
theorem gX9_init_X1_init_n43 : GoodIn wsX9_init (wsX1_init) := ggX9_init_X1_init
set_option maxRecDepth 20000 in
theorem ggX9_init_X5_init : GoodIn wsX9_init wsX5_init := goodIn_r _ [75, 76, 2, 3, 40, 77, 78, 79, 80, 117, 118, 119, 120] (by decide +kernel) (by decide +kernel)
set_option maxRecDepth 20000 in
theorem gX9_init_X5_init_n50 : GoodIn wsX9_init (wsX5_init) := ggX9_init_X5_init
set_option maxRecDepth 20000 in
theorem ggX9_init_X0_init : GoodIn wsX9_init wsX0_init := goodIn_r _ [82, 83, 2, 3, 84, 121] (by decide +kernel) (by decide +kernel)
set_option maxRecDepth 20000 in
theorem gX9_init_X0_init_n57 : GoodIn wsX9_init (wsX0_init) := ggX9_init_X0_init
set_option maxRecDepth 20000 in
theorem ggX9_init_X6_init : GoodIn wsX9_init wsX6_init := goodIn_r _ [86, 87, 2, 3, 40, 88, 89, 90, 91, 122, 123, 124, 125] (by decide +kernel) (by decide +kernel)
set_option maxRecDepth 20000 in
theorem gX9_init_X6_init_n72 : GoodIn wsX9_init (wsX6_init) := ggX9_init_X6_init
