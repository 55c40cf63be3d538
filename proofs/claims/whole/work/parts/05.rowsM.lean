theorem dX3_init_0 : decode cX3_init 0 = .ok (.aload_n 0, 1) := by decide +kernel
theorem dX3_init_1 : decode cX3_init 1 = .ok (.invokespecial 1, 3) := by decide +kernel
theorem dX3_init_4 : decode cX3_init 4 = .ok (.aload_n 0, 1) := by decide +kernel
theorem dX3_init_5 : decode cX3_init 5 = .ok (.bipush 8, 2) := by decide +kernel
theorem dX3_init_7 : decode cX3_init 7 = .ok (.newarray .int, 2) := by decide +kernel
theorem dX3_init_9 : decode cX3_init 9 = .ok (.putfield 7, 3) := by decide +kernel
theorem dX3_init_12 : decode cX3_init 12 = .ok (.aload_n 0, 1) := by decide +kernel
theorem dX3_init_13 : decode cX3_init 13 = .ok (.bipush 8, 2) := by decide +kernel
theorem dX3_init_15 : decode cX3_init 15 = .ok (.newarray .int, 2) := by decide +kernel
theorem dX3_init_17 : decode cX3_init 17 = .ok (.putfield 13, 3) := by decide +kernel
theorem dX3_init_20 : decode cX3_init 20 = .ok (.aload_n 0, 1) := by decide +kernel
theorem dX3_init_21 : decode cX3_init 21 = .ok (.bipush 8, 2) := by decide +kernel
theorem dX3_init_23 : decode cX3_init 23 = .ok (.newarray .boolean, 2) := by decide +kernel
theorem dX3_init_25 : decode cX3_init 25 = .ok (.putfield 16, 3) := by decide +kernel
theorem dX3_init_28 : decode cX3_init 28 = .ok (.aload_n 0, 1) := by decide +kernel
theorem dX3_init_29 : decode cX3_init 29 = .ok (.bipush 8, 2) := by decide +kernel
theorem dX3_init_31 : decode cX3_init 31 = .ok (.newarray .int, 2) := by decide +kernel
theorem dX3_init_33 : decode cX3_init 33 = .ok (.putfield 20, 3) := by decide +kernel
theorem dX3_init_36 : decode cX3_init 36 = .ok (.aload_n 0, 1) := by decide +kernel
theorem dX3_init_37 : decode cX3_init 37 = .ok (.bipush 8, 2) := by decide +kernel
theorem dX3_init_39 : decode cX3_init 39 = .ok (.newarray .int, 2) := by decide +kernel
theorem dX3_init_41 : decode cX3_init 41 = .ok (.putfield 23, 3) := by decide +kernel
theorem dX3_init_44 : decode cX3_init 44 = .ok (.aload_n 0, 1) := by decide +kernel
theorem dX3_init_45 : decode cX3_init 45 = .ok (.bipush 8, 2) := by decide +kernel
theorem dX3_init_47 : decode cX3_init 47 = .ok (.newarray .int, 2) := by decide +kernel
theorem dX3_init_49 : decode cX3_init 49 = .ok (.putfield 26, 3) := by decide +kernel
theorem dX3_init_52 : decode cX3_init 52 = .ok (.aload_n 0, 1) := by decide +kernel
theorem dX3_init_53 : decode cX3_init 53 = .ok (.bipush 8, 2) := by decide +kernel
theorem dX3_init_55 : decode cX3_init 55 = .ok (.newarray .int, 2) := by decide +kernel
theorem dX3_init_57 : decode cX3_init 57 = .ok (.putfield 29, 3) := by decide +kernel
theorem dX3_init_60 : decode cX3_init 60 = .ok (.aload_n 0, 1) := by decide +kernel
theorem dX3_init_61 : decode cX3_init 61 = .ok (.bipush 30, 2) := by decide +kernel
theorem dX3_init_63 : decode cX3_init 63 = .ok (.newarray .int, 2) := by decide +kernel
theorem dX3_init_65 : decode cX3_init 65 = .ok (.putfield 32, 3) := by decide +kernel
theorem dX3_init_68 : decode cX3_init 68 = .ok (.aload_n 0, 1) := by decide +kernel
theorem dX3_init_69 : decode cX3_init 69 = .ok (.bipush 30, 2) := by decide +kernel
theorem dX3_init_71 : decode cX3_init 71 = .ok (.newarray .int, 2) := by decide +kernel
theorem dX3_init_73 : decode cX3_init 73 = .ok (.putfield 35, 3) := by decide +kernel
theorem dX3_init_76 : decode cX3_init 76 = .ok (.aload_n 0, 1) := by decide +kernel
theorem dX3_init_77 : decode cX3_init 77 = .ok (.bipush 6, 2) := by decide +kernel
theorem dX3_init_79 : decode cX3_init 79 = .ok (.newarray .int, 2) := by decide +kernel
theorem dX3_init_81 : decode cX3_init 81 = .ok (.putfield 38, 3) := by decide +kernel
theorem dX3_init_84 : decode cX3_init 84 = .ok (.aload_n 0, 1) := by decide +kernel
theorem dX3_init_85 : decode cX3_init 85 = .ok (.bipush 6, 2) := by decide +kernel
theorem dX3_init_87 : decode cX3_init 87 = .ok (.newarray .int, 2) := by decide +kernel
theorem dX3_init_89 : decode cX3_init 89 = .ok (.putfield 41, 3) := by decide +kernel
theorem dX3_init_92 : decode cX3_init 92 = .ok (.aload_n 0, 1) := by decide +kernel
theorem dX3_init_93 : decode cX3_init 93 = .ok (.bipush 6, 2) := by decide +kernel
theorem dX3_init_95 : decode cX3_init 95 = .ok (.newarray .int, 2) := by decide +kernel
theorem dX3_init_97 : decode cX3_init 97 = .ok (.putfield 44, 3) := by decide +kernel
theorem dX3_init_100 : decode cX3_init 100 = .ok (.aload_n 0, 1) := by decide +kernel
theorem dX3_init_101 : decode cX3_init 101 = .ok (.iconst (-1), 1) := by decide +kernel
theorem dX3_init_102 : decode cX3_init 102 = .ok (.putfield 47, 3) := by decide +kernel
theorem dX3_init_105 : decode cX3_init 105 = .ok (.aload_n 0, 1) := by decide +kernel
theorem dX3_init_106 : decode cX3_init 106 = .ok (.bipush 17, 2) := by decide +kernel
theorem dX3_init_108 : decode cX3_init 108 = .ok (.newarray .int, 2) := by decide +kernel
theorem dX3_init_110 : decode cX3_init 110 = .ok (.putfield 51, 3) := by decide +kernel
theorem dX3_init_113 : decode cX3_init 113 = .ok (.aload_n 0, 1) := by decide +kernel
theorem dX3_init_114 : decode cX3_init 114 = .ok (.iconst 0, 1) := by decide +kernel
theorem dX3_init_115 : decode cX3_init 115 = .ok (.putfield 54, 3) := by decide +kernel
theorem dX3_init_118 : decode cX3_init 118 = .ok (.return_, 1) := by decide +kernel
theorem dX3_thrown_0 : decode cX3_thrown 0 = .ok (.aload_n 0, 1) := by decide +kernel
theorem dX3_thrown_1 : decode cX3_thrown 1 = .ok (.getfield 57, 3) := by decide +kernel
theorem dX3_thrown_4 : decode cX3_thrown 4 = .ok (.ireturn, 1) := by decide +kernel
theorem dX3_isIn_0 : decode cX3_isIn 0 = .ok (.iload_n 0, 1) := by decide +kernel
theorem dX3_isIn_1 : decode cX3_isIn 1 = .ok (.iload_n 1, 1) := by decide +kernel
theorem dX3_isIn_2 : decode cX3_isIn 2 = .ok (.if_icmp .lt 12, 3) := by decide +kernel
theorem dX3_isIn_5 : decode cX3_isIn 5 = .ok (.iload_n 0, 1) := by decide +kernel
theorem dX3_isIn_6 : decode cX3_isIn 6 = .ok (.iload_n 2, 1) := by decide +kernel
theorem dX3_isIn_7 : decode cX3_isIn 7 = .ok (.if_icmp .gt 7, 3) := by decide +kernel
theorem dX3_isIn_10 : decode cX3_isIn 10 = .ok (.iconst 1, 1) := by decide +kernel
theorem dX3_isIn_11 : decode cX3_isIn 11 = .ok (.goto 4, 3) := by decide +kernel
theorem dX3_isIn_14 : decode cX3_isIn 14 = .ok (.iconst 0, 1) := by decide +kernel
theorem dX3_isIn_15 : decode cX3_isIn 15 = .ok (.ireturn, 1) := by decide +kernel
theorem dX3_modulo_0 : decode cX3_modulo 0 = .ok (.iload_n 0, 1) := by decide +kernel
theorem dX3_modulo_1 : decode cX3_modulo 1 = .ok (.iload_n 1, 1) := by decide +kernel
theorem dX3_modulo_2 : decode cX3_modulo 2 = .ok (.irem, 1) := by decide +kernel
theorem dX3_modulo_3 : decode cX3_modulo 3 = .ok (.istore_n 2, 1) := by decide +kernel
theorem dX3_modulo_4 : decode cX3_modulo 4 = .ok (.iload_n 2, 1) := by decide +kernel
theorem dX3_modulo_5 : decode cX3_modulo 5 = .ok (.ifCond .ge 9, 3) := by decide +kernel
theorem dX3_modulo_8 : decode cX3_modulo 8 = .ok (.iload_n 2, 1) := by decide +kernel
theorem dX3_modulo_9 : decode cX3_modulo 9 = .ok (.iload_n 1, 1) := by decide +kernel
theorem dX3_modulo_10 : decode cX3_modulo 10 = .ok (.iadd, 1) := by decide +kernel
theorem dX3_modulo_11 : decode cX3_modulo 11 = .ok (.goto 4, 3) := by decide +kernel
theorem dX3_modulo_14 : decode cX3_modulo 14 = .ok (.iload_n 2, 1) := by decide +kernel
theorem dX3_modulo_15 : decode cX3_modulo 15 = .ok (.ireturn, 1) := by decide +kernel
set_option maxRecDepth 20000 in
theorem ggX3_isPlace_X3_isIn : GoodIn wsX3_isPlace wsX3_isIn := goodIn_r _ [4] (by decide +kernel) (by decide +kernel)
set_option maxRecDepth 20000 in
theorem gX3_isPlace_X3_isIn : GoodIn wsX3_isPlace (va_wsS RX3 60 yX3_isIn wsX3_isIn) := goodIn_app (goodIn_of _ (by decide +kernel)) ggX3_isPlace_X3_isIn
theorem dX3_isPlace_0 : decode cX3_isPlace 0 = .ok (.iload_n 0, 1) := by decide +kernel
theorem dX3_isPlace_1 : decode cX3_isPlace 1 = .ok (.iconst 0, 1) := by decide +kernel
theorem dX3_isPlace_2 : decode cX3_isPlace 2 = .ok (.bipush 7, 2) := by decide +kernel
theorem dX3_isPlace_4 : decode cX3_isPlace 4 = .ok (.invokestatic 60, 3) := by decide +kernel
theorem dX3_isPlace_7 : decode cX3_isPlace 7 = .ok (.ireturn, 1) := by decide +kernel
set_option maxRecDepth 20000 in
theorem ggX3_isHouse_X3_isPlace : GoodIn wsX3_isHouse wsX3_isPlace := goodIn_r _ [5, 6, 7, 4, 8] (by decide +kernel) (by decide +kernel)
set_option maxRecDepth 20000 in
theorem gX3_isHouse_X3_isPlace : GoodIn wsX3_isHouse (va_wsS RX3 64 yX3_isPlace wsX3_isPlace) := goodIn_app (goodIn_of _ (by decide +kernel)) ggX3_isHouse_X3_isPlace
theorem dX3_isHouse_0 : decode cX3_isHouse 0 = .ok (.iload_n 1, 1) := by decide +kernel
theorem dX3_isHouse_1 : decode cX3_isHouse 1 = .ok (.invokestatic 64, 3) := by decide +kernel
theorem dX3_isHouse_4 : decode cX3_isHouse 4 = .ok (.ifCond .eq 16, 3) := by decide +kernel
theorem dX3_isHouse_7 : decode cX3_isHouse 7 = .ok (.aload_n 0, 1) := by decide +kernel
theorem dX3_isHouse_8 : decode cX3_isHouse 8 = .ok (.getfield 7, 3) := by decide +kernel
theorem dX3_isHouse_11 : decode cX3_isHouse 11 = .ok (.iload_n 1, 1) := by decide +kernel
theorem dX3_isHouse_12 : decode cX3_isHouse 12 = .ok (.iaload, 1) := by decide +kernel
theorem dX3_isHouse_13 : decode cX3_isHouse 13 = .ok (.ifCond .le 7, 3) := by decide +kernel
theorem dX3_isHouse_16 : decode cX3_isHouse 16 = .ok (.iconst 1, 1) := by decide +kernel
theorem dX3_isHouse_17 : decode cX3_isHouse 17 = .ok (.goto 4, 3) := by decide +kernel
theorem dX3_isHouse_20 : decode cX3_isHouse 20 = .ok (.iconst 0, 1) := by decide +kernel
theorem dX3_isHouse_21 : decode cX3_isHouse 21 = .ok (.ireturn, 1) := by decide +kernel
theorem dX3_cleared_0 : decode cX3_cleared 0 = .ok (.aload_n 0, 1) := by decide +kernel
theorem dX3_cleared_1 : decode cX3_cleared 1 = .ok (.getfield 7, 3) := by decide +kernel
theorem dX3_cleared_4 : decode cX3_cleared 4 = .ok (.iload_n 1, 1) := by decide +kernel
theorem dX3_cleared_5 : decode cX3_cleared 5 = .ok (.iload_n 2, 1) := by decide +kernel
theorem dX3_cleared_6 : decode cX3_cleared 6 = .ok (.iastore, 1) := by decide +kernel
theorem dX3_cleared_7 : decode cX3_cleared 7 = .ok (.aload_n 0, 1) := by decide +kernel
theorem dX3_cleared_8 : decode cX3_cleared 8 = .ok (.getfield 13, 3) := by decide +kernel
theorem dX3_cleared_11 : decode cX3_cleared 11 = .ok (.iload_n 1, 1) := by decide +kernel
theorem dX3_cleared_12 : decode cX3_cleared 12 = .ok (.iconst 0, 1) := by decide +kernel
theorem dX3_cleared_13 : decode cX3_cleared 13 = .ok (.iastore, 1) := by decide +kernel
theorem dX3_cleared_14 : decode cX3_cleared 14 = .ok (.aload_n 0, 1) := by decide +kernel
theorem dX3_cleared_15 : decode cX3_cleared 15 = .ok (.getfield 16, 3) := by decide +kernel
theorem dX3_cleared_18 : decode cX3_cleared 18 = .ok (.iload_n 1, 1) := by decide +kernel
theorem dX3_cleared_19 : decode cX3_cleared 19 = .ok (.iload_n 3, 1) := by decide +kernel
theorem dX3_cleared_20 : decode cX3_cleared 20 = .ok (.bastore, 1) := by decide +kernel
theorem dX3_cleared_21 : decode cX3_cleared 21 = .ok (.aload_n 0, 1) := by decide +kernel
theorem dX3_cleared_22 : decode cX3_cleared 22 = .ok (.getfield 20, 3) := by decide +kernel
theorem dX3_cleared_25 : decode cX3_cleared 25 = .ok (.iload_n 1, 1) := by decide +kernel
theorem dX3_cleared_26 : decode cX3_cleared 26 = .ok (.iconst 0, 1) := by decide +kernel
theorem dX3_cleared_27 : decode cX3_cleared 27 = .ok (.iastore, 1) := by decide +kernel
theorem dX3_cleared_28 : decode cX3_cleared 28 = .ok (.aload_n 0, 1) := by decide +kernel
theorem dX3_cleared_29 : decode cX3_cleared 29 = .ok (.getfield 23, 3) := by decide +kernel
theorem dX3_cleared_32 : decode cX3_cleared 32 = .ok (.iload_n 1, 1) := by decide +kernel
theorem dX3_cleared_33 : decode cX3_cleared 33 = .ok (.iconst 0, 1) := by decide +kernel
theorem dX3_cleared_34 : decode cX3_cleared 34 = .ok (.iastore, 1) := by decide +kernel
theorem dX3_cleared_35 : decode cX3_cleared 35 = .ok (.aload_n 0, 1) := by decide +kernel
theorem dX3_cleared_36 : decode cX3_cleared 36 = .ok (.getfield 26, 3) := by decide +kernel
theorem dX3_cleared_39 : decode cX3_cleared 39 = .ok (.iload_n 1, 1) := by decide +kernel
theorem dX3_cleared_40 : decode cX3_cleared 40 = .ok (.iconst 0, 1) := by decide +kernel
theorem dX3_cleared_41 : decode cX3_cleared 41 = .ok (.iastore, 1) := by decide +kernel
theorem dX3_cleared_42 : decode cX3_cleared 42 = .ok (.return_, 1) := by decide +kernel
set_option maxRecDepth 20000 in
theorem ggX3_build_X3_isPlace : GoodIn wsX3_build wsX3_isPlace := goodIn_r _ [6, 7, 8, 5, 9] (by decide +kernel) (by decide +kernel)
set_option maxRecDepth 20000 in
theorem gX3_build_X3_isPlace : GoodIn wsX3_build (va_wsS RX3 64 yX3_isPlace wsX3_isPlace) := goodIn_app (goodIn_of _ (by decide +kernel)) ggX3_build_X3_isPlace
set_option maxRecDepth 20000 in
theorem ggX3_build_X3_isIn : GoodIn wsX3_build wsX3_isIn := goodIn_r _ [9] (by decide +kernel) (by decide +kernel)
set_option maxRecDepth 20000 in
theorem gX3_build_X3_isIn : GoodIn wsX3_build (va_wsS RX3 60 yX3_isIn wsX3_isIn) := goodIn_app (goodIn_of _ (by decide +kernel)) ggX3_build_X3_isIn
set_option maxRecDepth 20000 in
theorem ggX3_build_X3_cleared : GoodIn wsX3_build wsX3_cleared := goodIn_ca (goodIn_r _ [13, 2, 14, 15, 16, 17, 18, 19, 20, 21, 22, 23, 24, 25, 26, 27, 28, 29, 30, 31, 32, 33, 34, 35, 36, 37, 38] (by decide +kernel) (by decide +kernel)) (goodIn_sub (fun _ h => List.mem_cons_of_mem _ (List.mem_append_right _ h)) (by decide +kernel))
set_option maxRecDepth 20000 in
theorem gX3_build_X3_cleared : GoodIn wsX3_build (wsV RX3 68 RX3 yX3_cleared wsX3_cleared) := goodIn_app (goodIn_of _ (by decide +kernel)) ggX3_build_X3_cleared
theorem dX3_build_0 : decode cX3_build 0 = .ok (.aload_n 0, 1) := by decide +kernel
theorem dX3_build_1 : decode cX3_build 1 = .ok (.iconst 0, 1) := by decide +kernel
theorem dX3_build_2 : decode cX3_build 2 = .ok (.putfield 57, 3) := by decide +kernel
theorem dX3_build_5 : decode cX3_build 5 = .ok (.iload_n 1, 1) := by decide +kernel
theorem dX3_build_6 : decode cX3_build 6 = .ok (.invokestatic 64, 3) := by decide +kernel
theorem dX3_build_9 : decode cX3_build 9 = .ok (.ifCond .eq 13, 3) := by decide +kernel
theorem dX3_build_12 : decode cX3_build 12 = .ok (.iload_n 2, 1) := by decide +kernel
theorem dX3_build_13 : decode cX3_build 13 = .ok (.iconst 1, 1) := by decide +kernel
theorem dX3_build_14 : decode cX3_build 14 = .ok (.bipush 100, 2) := by decide +kernel
theorem dX3_build_16 : decode cX3_build 16 = .ok (.invokestatic 60, 3) := by decide +kernel
theorem dX3_build_19 : decode cX3_build 19 = .ok (.ifCond .ne 5, 3) := by decide +kernel
theorem dX3_build_22 : decode cX3_build 22 = .ok (.iconst (-1), 1) := by decide +kernel
theorem dX3_build_23 : decode cX3_build 23 = .ok (.ireturn, 1) := by decide +kernel
theorem dX3_build_24 : decode cX3_build 24 = .ok (.aload_n 0, 1) := by decide +kernel
theorem dX3_build_25 : decode cX3_build 25 = .ok (.getfield 7, 3) := by decide +kernel
theorem dX3_build_28 : decode cX3_build 28 = .ok (.iload_n 1, 1) := by decide +kernel
theorem dX3_build_29 : decode cX3_build 29 = .ok (.iaload, 1) := by decide +kernel
theorem dX3_build_30 : decode cX3_build 30 = .ok (.ifCond .le 7, 3) := by decide +kernel
theorem dX3_build_33 : decode cX3_build 33 = .ok (.iconst 1, 1) := by decide +kernel
theorem dX3_build_34 : decode cX3_build 34 = .ok (.goto 4, 3) := by decide +kernel
theorem dX3_build_37 : decode cX3_build 37 = .ok (.iconst 0, 1) := by decide +kernel
theorem dX3_build_38 : decode cX3_build 38 = .ok (.istore 4, 2) := by decide +kernel
theorem dX3_build_40 : decode cX3_build 40 = .ok (.aload_n 0, 1) := by decide +kernel
theorem dX3_build_41 : decode cX3_build 41 = .ok (.iload_n 1, 1) := by decide +kernel
theorem dX3_build_42 : decode cX3_build 42 = .ok (.iload_n 2, 1) := by decide +kernel
theorem dX3_build_43 : decode cX3_build 43 = .ok (.iload_n 3, 1) := by decide +kernel
theorem dX3_build_44 : decode cX3_build 44 = .ok (.invokevirtual 68, 3) := by decide +kernel
theorem dX3_build_47 : decode cX3_build 47 = .ok (.iload 4, 2) := by decide +kernel
theorem dX3_build_49 : decode cX3_build 49 = .ok (.ireturn, 1) := by decide +kernel
set_option maxRecDepth 20000 in
theorem ggX3_raze_X3_isPlace : GoodIn wsX3_raze wsX3_isPlace := goodIn_r _ [6, 7, 8, 5, 9] (by decide +kernel) (by decide +kernel)
set_option maxRecDepth 20000 in
theorem gX3_raze_X3_isPlace : GoodIn wsX3_raze (va_wsS RX3 64 yX3_isPlace wsX3_isPlace) := goodIn_app (goodIn_of _ (by decide +kernel)) ggX3_raze_X3_isPlace
set_option maxRecDepth 20000 in
theorem ggX3_raze_X3_cleared : GoodIn wsX3_raze wsX3_cleared := goodIn_ca (goodIn_r _ [13, 2, 14, 15, 16, 17, 18, 19, 20, 21, 22, 23, 24, 25, 26, 27, 28, 29, 30, 31, 32, 33, 34, 35, 36, 37, 38] (by decide +kernel) (by decide +kernel)) (goodIn_sub (fun _ h => List.mem_cons_of_mem _ (List.mem_append_right _ h)) (by decide +kernel))
set_option maxRecDepth 20000 in
theorem gX3_raze_X3_cleared : GoodIn wsX3_raze (wsV RX3 68 RX3 yX3_cleared wsX3_cleared) := goodIn_app (goodIn_of _ (by decide +kernel)) ggX3_raze_X3_cleared
theorem dX3_raze_0 : decode cX3_raze 0 = .ok (.aload_n 0, 1) := by decide +kernel
theorem dX3_raze_1 : decode cX3_raze 1 = .ok (.iconst 0, 1) := by decide +kernel
theorem dX3_raze_2 : decode cX3_raze 2 = .ok (.putfield 57, 3) := by decide +kernel
theorem dX3_raze_5 : decode cX3_raze 5 = .ok (.iload_n 1, 1) := by decide +kernel
theorem dX3_raze_6 : decode cX3_raze 6 = .ok (.invokestatic 64, 3) := by decide +kernel
theorem dX3_raze_9 : decode cX3_raze 9 = .ok (.ifCond .ne 5, 3) := by decide +kernel
theorem dX3_raze_12 : decode cX3_raze 12 = .ok (.iconst (-1), 1) := by decide +kernel
theorem dX3_raze_13 : decode cX3_raze 13 = .ok (.ireturn, 1) := by decide +kernel
theorem dX3_raze_14 : decode cX3_raze 14 = .ok (.aload_n 0, 1) := by decide +kernel
theorem dX3_raze_15 : decode cX3_raze 15 = .ok (.getfield 7, 3) := by decide +kernel
theorem dX3_raze_18 : decode cX3_raze 18 = .ok (.iload_n 1, 1) := by decide +kernel
theorem dX3_raze_19 : decode cX3_raze 19 = .ok (.iaload, 1) := by decide +kernel
theorem dX3_raze_20 : decode cX3_raze 20 = .ok (.ifCond .le 7, 3) := by decide +kernel
theorem dX3_raze_23 : decode cX3_raze 23 = .ok (.iconst 1, 1) := by decide +kernel
theorem dX3_raze_24 : decode cX3_raze 24 = .ok (.goto 4, 3) := by decide +kernel
theorem dX3_raze_27 : decode cX3_raze 27 = .ok (.iconst 0, 1) := by decide +kernel
theorem dX3_raze_28 : decode cX3_raze 28 = .ok (.istore_n 2, 1) := by decide +kernel
theorem dX3_raze_29 : decode cX3_raze 29 = .ok (.aload_n 0, 1) := by decide +kernel
theorem dX3_raze_30 : decode cX3_raze 30 = .ok (.iload_n 1, 1) := by decide +kernel
theorem dX3_raze_31 : decode cX3_raze 31 = .ok (.iconst 0, 1) := by decide +kernel
theorem dX3_raze_32 : decode cX3_raze 32 = .ok (.iconst 0, 1) := by decide +kernel
theorem dX3_raze_33 : decode cX3_raze 33 = .ok (.invokevirtual 68, 3) := by decide +kernel
theorem dX3_raze_36 : decode cX3_raze 36 = .ok (.iload_n 2, 1) := by decide +kernel
theorem dX3_raze_37 : decode cX3_raze 37 = .ok (.ireturn, 1) := by decide +kernel
set_option maxRecDepth 20000 in
theorem ggX3_step_X3_isIn : GoodIn wsX3_step wsX3_isIn := goodIn_r _ [8] (by decide +kernel) (by decide +kernel)
set_option maxRecDepth 20000 in
theorem gX3_step_X3_isIn : GoodIn wsX3_step (va_wsS RX3 60 yX3_isIn wsX3_isIn) := goodIn_app (goodIn_of _ (by decide +kernel)) ggX3_step_X3_isIn
theorem dX3_step_0 : decode cX3_step 0 = .ok (.aload_n 0, 1) := by decide +kernel
theorem dX3_step_1 : decode cX3_step 1 = .ok (.iconst 0, 1) := by decide +kernel
theorem dX3_step_2 : decode cX3_step 2 = .ok (.putfield 57, 3) := by decide +kernel
theorem dX3_step_5 : decode cX3_step 5 = .ok (.iload_n 1, 1) := by decide +kernel
theorem dX3_step_6 : decode cX3_step 6 = .ok (.iconst 0, 1) := by decide +kernel
theorem dX3_step_7 : decode cX3_step 7 = .ok (.bipush 8, 2) := by decide +kernel
theorem dX3_step_9 : decode cX3_step 9 = .ok (.invokestatic 60, 3) := by decide +kernel
theorem dX3_step_12 : decode cX3_step 12 = .ok (.ifCond .ne 5, 3) := by decide +kernel
theorem dX3_step_15 : decode cX3_step 15 = .ok (.iconst (-1), 1) := by decide +kernel
theorem dX3_step_16 : decode cX3_step 16 = .ok (.ireturn, 1) := by decide +kernel
theorem dX3_step_17 : decode cX3_step 17 = .ok (.aload_n 0, 1) := by decide +kernel
theorem dX3_step_18 : decode cX3_step 18 = .ok (.getfield 54, 3) := by decide +kernel
theorem dX3_step_21 : decode cX3_step 21 = .ok (.bipush 30, 2) := by decide +kernel
theorem dX3_step_23 : decode cX3_step 23 = .ok (.if_icmp .ne 6, 3) := by decide +kernel
theorem dX3_step_26 : decode cX3_step 26 = .ok (.bipush (-2), 2) := by decide +kernel
theorem dX3_step_28 : decode cX3_step 28 = .ok (.ireturn, 1) := by decide +kernel
theorem dX3_step_29 : decode cX3_step 29 = .ok (.aload_n 0, 1) := by decide +kernel
theorem dX3_step_30 : decode cX3_step 30 = .ok (.getfield 32, 3) := by decide +kernel
theorem dX3_step_33 : decode cX3_step 33 = .ok (.aload_n 0, 1) := by decide +kernel
theorem dX3_step_34 : decode cX3_step 34 = .ok (.getfield 54, 3) := by decide +kernel
theorem dX3_step_37 : decode cX3_step 37 = .ok (.iload_n 1, 1) := by decide +kernel
theorem dX3_step_38 : decode cX3_step 38 = .ok (.iastore, 1) := by decide +kernel
theorem dX3_step_39 : decode cX3_step 39 = .ok (.aload_n 0, 1) := by decide +kernel
theorem dX3_step_40 : decode cX3_step 40 = .ok (.getfield 35, 3) := by decide +kernel
theorem dX3_step_43 : decode cX3_step 43 = .ok (.aload_n 0, 1) := by decide +kernel
theorem dX3_step_44 : decode cX3_step 44 = .ok (.getfield 54, 3) := by decide +kernel
theorem dX3_step_47 : decode cX3_step 47 = .ok (.iload_n 2, 1) := by decide +kernel
theorem dX3_step_48 : decode cX3_step 48 = .ok (.iastore, 1) := by decide +kernel
theorem dX3_step_49 : decode cX3_step 49 = .ok (.aload_n 0, 1) := by decide +kernel
theorem dX3_step_50 : decode cX3_step 50 = .ok (.dup, 1) := by decide +kernel
theorem dX3_step_51 : decode cX3_step 51 = .ok (.getfield 54, 3) := by decide +kernel
theorem dX3_step_54 : decode cX3_step 54 = .ok (.iconst 1, 1) := by decide +kernel
theorem dX3_step_55 : decode cX3_step 55 = .ok (.iadd, 1) := by decide +kernel
theorem dX3_step_56 : decode cX3_step 56 = .ok (.putfield 54, 3) := by decide +kernel
theorem dX3_step_59 : decode cX3_step 59 = .ok (.aload_n 0, 1) := by decide +kernel
theorem dX3_step_60 : decode cX3_step 60 = .ok (.getfield 54, 3) := by decide +kernel
theorem dX3_step_63 : decode cX3_step 63 = .ok (.ireturn, 1) := by decide +kernel
theorem dX3_clear_0 : decode cX3_clear 0 = .ok (.aload_n 0, 1) := by decide +kernel
theorem dX3_clear_1 : decode cX3_clear 1 = .ok (.iconst 0, 1) := by decide +kernel
theorem dX3_clear_2 : decode cX3_clear 2 = .ok (.putfield 57, 3) := by decide +kernel
theorem dX3_clear_5 : decode cX3_clear 5 = .ok (.aload_n 0, 1) := by decide +kernel
theorem dX3_clear_6 : decode cX3_clear 6 = .ok (.getfield 54, 3) := by decide +kernel
theorem dX3_clear_9 : decode cX3_clear 9 = .ok (.istore_n 1, 1) := by decide +kernel
theorem dX3_clear_10 : decode cX3_clear 10 = .ok (.aload_n 0, 1) := by decide +kernel
theorem dX3_clear_11 : decode cX3_clear 11 = .ok (.iconst 0, 1) := by decide +kernel
theorem dX3_clear_12 : decode cX3_clear 12 = .ok (.putfield 54, 3) := by decide +kernel
theorem dX3_clear_15 : decode cX3_clear 15 = .ok (.iload_n 1, 1) := by decide +kernel
theorem dX3_clear_16 : decode cX3_clear 16 = .ok (.ireturn, 1) := by decide +kernel
set_option maxRecDepth 20000 in
theorem ggX3_alter_X3_isIn : GoodIn wsX3_alter wsX3_isIn := goodIn_r _ [8] (by decide +kernel) (by decide +kernel)
set_option maxRecDepth 20000 in
theorem gX3_alter_X3_isIn : GoodIn wsX3_alter (va_wsS RX3 60 yX3_isIn wsX3_isIn) := goodIn_app (goodIn_of _ (by decide +kernel)) ggX3_alter_X3_isIn
theorem dX3_alter_0 : decode cX3_alter 0 = .ok (.aload_n 0, 1) := by decide +kernel
theorem dX3_alter_1 : decode cX3_alter 1 = .ok (.iconst 0, 1) := by decide +kernel
theorem dX3_alter_2 : decode cX3_alter 2 = .ok (.putfield 57, 3) := by decide +kernel
theorem dX3_alter_5 : decode cX3_alter 5 = .ok (.iload_n 1, 1) := by decide +kernel
theorem dX3_alter_6 : decode cX3_alter 6 = .ok (.iconst 0, 1) := by decide +kernel
theorem dX3_alter_7 : decode cX3_alter 7 = .ok (.aload_n 0, 1) := by decide +kernel
theorem dX3_alter_8 : decode cX3_alter 8 = .ok (.getfield 54, 3) := by decide +kernel
theorem dX3_alter_11 : decode cX3_alter 11 = .ok (.iconst 1, 1) := by decide +kernel
theorem dX3_alter_12 : decode cX3_alter 12 = .ok (.isub, 1) := by decide +kernel
theorem dX3_alter_13 : decode cX3_alter 13 = .ok (.invokestatic 60, 3) := by decide +kernel
theorem dX3_alter_16 : decode cX3_alter 16 = .ok (.ifCond .eq 13, 3) := by decide +kernel
theorem dX3_alter_19 : decode cX3_alter 19 = .ok (.iload_n 2, 1) := by decide +kernel
theorem dX3_alter_20 : decode cX3_alter 20 = .ok (.iconst 0, 1) := by decide +kernel
theorem dX3_alter_21 : decode cX3_alter 21 = .ok (.bipush 8, 2) := by decide +kernel
theorem dX3_alter_23 : decode cX3_alter 23 = .ok (.invokestatic 60, 3) := by decide +kernel
theorem dX3_alter_26 : decode cX3_alter 26 = .ok (.ifCond .ne 5, 3) := by decide +kernel
theorem dX3_alter_29 : decode cX3_alter 29 = .ok (.iconst (-1), 1) := by decide +kernel
theorem dX3_alter_30 : decode cX3_alter 30 = .ok (.ireturn, 1) := by decide +kernel
theorem dX3_alter_31 : decode cX3_alter 31 = .ok (.aload_n 0, 1) := by decide +kernel
theorem dX3_alter_32 : decode cX3_alter 32 = .ok (.getfield 32, 3) := by decide +kernel
theorem dX3_alter_35 : decode cX3_alter 35 = .ok (.iload_n 1, 1) := by decide +kernel
theorem dX3_alter_36 : decode cX3_alter 36 = .ok (.iaload, 1) := by decide +kernel
theorem dX3_alter_37 : decode cX3_alter 37 = .ok (.istore 4, 2) := by decide +kernel
theorem dX3_alter_39 : decode cX3_alter 39 = .ok (.aload_n 0, 1) := by decide +kernel
theorem dX3_alter_40 : decode cX3_alter 40 = .ok (.getfield 32, 3) := by decide +kernel
theorem dX3_alter_43 : decode cX3_alter 43 = .ok (.iload_n 1, 1) := by decide +kernel
theorem dX3_alter_44 : decode cX3_alter 44 = .ok (.iload_n 2, 1) := by decide +kernel
theorem dX3_alter_45 : decode cX3_alter 45 = .ok (.iastore, 1) := by decide +kernel
theorem dX3_alter_46 : decode cX3_alter 46 = .ok (.aload_n 0, 1) := by decide +kernel
theorem dX3_alter_47 : decode cX3_alter 47 = .ok (.getfield 35, 3) := by decide +kernel
theorem dX3_alter_50 : decode cX3_alter 50 = .ok (.iload_n 1, 1) := by decide +kernel
theorem dX3_alter_51 : decode cX3_alter 51 = .ok (.iload_n 3, 1) := by decide +kernel
theorem dX3_alter_52 : decode cX3_alter 52 = .ok (.iastore, 1) := by decide +kernel
theorem dX3_alter_53 : decode cX3_alter 53 = .ok (.iload 4, 2) := by decide +kernel
theorem dX3_alter_55 : decode cX3_alter 55 = .ok (.ireturn, 1) := by decide +kernel
theorem dX3_comes_0 : decode cX3_comes 0 = .ok (.aload_n 0, 1) := by decide +kernel
theorem dX3_comes_1 : decode cX3_comes 1 = .ok (.getfield 13, 3) := by decide +kernel
theorem dX3_comes_4 : decode cX3_comes 4 = .ok (.iload_n 1, 1) := by decide +kernel
theorem dX3_comes_5 : decode cX3_comes 5 = .ok (.dup2, 1) := by decide +kernel
theorem dX3_comes_6 : decode cX3_comes 6 = .ok (.iaload, 1) := by decide +kernel
theorem dX3_comes_7 : decode cX3_comes 7 = .ok (.iload_n 2, 1) := by decide +kernel
theorem dX3_comes_8 : decode cX3_comes 8 = .ok (.iadd, 1) := by decide +kernel
theorem dX3_comes_9 : decode cX3_comes 9 = .ok (.iastore, 1) := by decide +kernel
theorem dX3_comes_10 : decode cX3_comes 10 = .ok (.aload_n 0, 1) := by decide +kernel
theorem dX3_comes_11 : decode cX3_comes 11 = .ok (.getfield 13, 3) := by decide +kernel
theorem dX3_comes_14 : decode cX3_comes 14 = .ok (.iload_n 1, 1) := by decide +kernel
theorem dX3_comes_15 : decode cX3_comes 15 = .ok (.iaload, 1) := by decide +kernel
theorem dX3_comes_16 : decode cX3_comes 16 = .ok (.bipush 10, 2) := by decide +kernel
theorem dX3_comes_18 : decode cX3_comes 18 = .ok (.aload_n 0, 1) := by decide +kernel
theorem dX3_comes_19 : decode cX3_comes 19 = .ok (.getfield 7, 3) := by decide +kernel
theorem dX3_comes_22 : decode cX3_comes 22 = .ok (.iload_n 1, 1) := by decide +kernel
theorem dX3_comes_23 : decode cX3_comes 23 = .ok (.iaload, 1) := by decide +kernel
theorem dX3_comes_24 : decode cX3_comes 24 = .ok (.imul, 1) := by decide +kernel
theorem dX3_comes_25 : decode cX3_comes 25 = .ok (.if_icmp .gt 5, 3) := by decide +kernel
theorem dX3_comes_28 : decode cX3_comes 28 = .ok (.iconst 0, 1) := by decide +kernel
theorem dX3_comes_29 : decode cX3_comes 29 = .ok (.ireturn, 1) := by decide +kernel
theorem dX3_comes_30 : decode cX3_comes 30 = .ok (.aload_n 0, 1) := by decide +kernel
theorem dX3_comes_31 : decode cX3_comes 31 = .ok (.getfield 13, 3) := by decide +kernel
theorem dX3_comes_34 : decode cX3_comes 34 = .ok (.iload_n 1, 1) := by decide +kernel
theorem dX3_comes_35 : decode cX3_comes 35 = .ok (.iconst 0, 1) := by decide +kernel
theorem dX3_comes_36 : decode cX3_comes 36 = .ok (.iastore, 1) := by decide +kernel
theorem dX3_comes_37 : decode cX3_comes 37 = .ok (.aload_n 0, 1) := by decide +kernel
theorem dX3_comes_38 : decode cX3_comes 38 = .ok (.getfield 23, 3) := by decide +kernel
theorem dX3_comes_41 : decode cX3_comes 41 = .ok (.iload_n 1, 1) := by decide +kernel
theorem dX3_comes_42 : decode cX3_comes 42 = .ok (.dup2, 1) := by decide +kernel
theorem dX3_comes_43 : decode cX3_comes 43 = .ok (.iaload, 1) := by decide +kernel
theorem dX3_comes_44 : decode cX3_comes 44 = .ok (.iconst 1, 1) := by decide +kernel
theorem dX3_comes_45 : decode cX3_comes 45 = .ok (.iadd, 1) := by decide +kernel
theorem dX3_comes_46 : decode cX3_comes 46 = .ok (.iastore, 1) := by decide +kernel
theorem dX3_comes_47 : decode cX3_comes 47 = .ok (.iconst 3, 1) := by decide +kernel
theorem dX3_comes_48 : decode cX3_comes 48 = .ok (.ireturn, 1) := by decide +kernel
theorem dX3_goIn_0 : decode cX3_goIn 0 = .ok (.aload_n 0, 1) := by decide +kernel
theorem dX3_goIn_1 : decode cX3_goIn 1 = .ok (.getfield 72, 3) := by decide +kernel
theorem dX3_goIn_4 : decode cX3_goIn 4 = .ok (.bipush 6, 2) := by decide +kernel
theorem dX3_goIn_6 : decode cX3_goIn 6 = .ok (.if_icmp .ne 5, 3) := by decide +kernel
theorem dX3_goIn_9 : decode cX3_goIn 9 = .ok (.iconst 2, 1) := by decide +kernel
theorem dX3_goIn_10 : decode cX3_goIn 10 = .ok (.ireturn, 1) := by decide +kernel
theorem dX3_goIn_11 : decode cX3_goIn 11 = .ok (.aload_n 0, 1) := by decide +kernel
theorem dX3_goIn_12 : decode cX3_goIn 12 = .ok (.getfield 7, 3) := by decide +kernel
theorem dX3_goIn_15 : decode cX3_goIn 15 = .ok (.iload_n 1, 1) := by decide +kernel
theorem dX3_goIn_16 : decode cX3_goIn 16 = .ok (.iaload, 1) := by decide +kernel
theorem dX3_goIn_17 : decode cX3_goIn 17 = .ok (.ifCond .ne 5, 3) := by decide +kernel
theorem dX3_goIn_20 : decode cX3_goIn 20 = .ok (.iconst 1, 1) := by decide +kernel
theorem dX3_goIn_21 : decode cX3_goIn 21 = .ok (.ireturn, 1) := by decide +kernel
theorem dX3_goIn_22 : decode cX3_goIn 22 = .ok (.aload_n 0, 1) := by decide +kernel
theorem dX3_goIn_23 : decode cX3_goIn 23 = .ok (.getfield 20, 3) := by decide +kernel
theorem dX3_goIn_26 : decode cX3_goIn 26 = .ok (.iload_n 1, 1) := by decide +kernel
theorem dX3_goIn_27 : decode cX3_goIn 27 = .ok (.dup2, 1) := by decide +kernel
theorem dX3_goIn_28 : decode cX3_goIn 28 = .ok (.iaload, 1) := by decide +kernel
theorem dX3_goIn_29 : decode cX3_goIn 29 = .ok (.iconst 1, 1) := by decide +kernel
theorem dX3_goIn_30 : decode cX3_goIn 30 = .ok (.iadd, 1) := by decide +kernel
theorem dX3_goIn_31 : decode cX3_goIn 31 = .ok (.iastore, 1) := by decide +kernel
theorem dX3_goIn_32 : decode cX3_goIn 32 = .ok (.aload_n 0, 1) := by decide +kernel
theorem dX3_goIn_33 : decode cX3_goIn 33 = .ok (.getfield 38, 3) := by decide +kernel
theorem dX3_goIn_36 : decode cX3_goIn 36 = .ok (.aload_n 0, 1) := by decide +kernel
theorem dX3_goIn_37 : decode cX3_goIn 37 = .ok (.getfield 72, 3) := by decide +kernel
theorem dX3_goIn_40 : decode cX3_goIn 40 = .ok (.iload_n 1, 1) := by decide +kernel
theorem dX3_goIn_41 : decode cX3_goIn 41 = .ok (.iastore, 1) := by decide +kernel
theorem dX3_goIn_42 : decode cX3_goIn 42 = .ok (.aload_n 0, 1) := by decide +kernel
theorem dX3_goIn_43 : decode cX3_goIn 43 = .ok (.getfield 41, 3) := by decide +kernel
theorem dX3_goIn_46 : decode cX3_goIn 46 = .ok (.aload_n 0, 1) := by decide +kernel
theorem dX3_goIn_47 : decode cX3_goIn 47 = .ok (.getfield 72, 3) := by decide +kernel
theorem dX3_goIn_50 : decode cX3_goIn 50 = .ok (.aload_n 0, 1) := by decide +kernel
theorem dX3_goIn_51 : decode cX3_goIn 51 = .ok (.getfield 75, 3) := by decide +kernel
theorem dX3_goIn_54 : decode cX3_goIn 54 = .ok (.iastore, 1) := by decide +kernel
theorem dX3_goIn_55 : decode cX3_goIn 55 = .ok (.aload_n 0, 1) := by decide +kernel
theorem dX3_goIn_56 : decode cX3_goIn 56 = .ok (.getfield 44, 3) := by decide +kernel
theorem dX3_goIn_59 : decode cX3_goIn 59 = .ok (.aload_n 0, 1) := by decide +kernel
theorem dX3_goIn_60 : decode cX3_goIn 60 = .ok (.getfield 72, 3) := by decide +kernel
theorem dX3_goIn_63 : decode cX3_goIn 63 = .ok (.iconst 0, 1) := by decide +kernel
theorem dX3_goIn_64 : decode cX3_goIn 64 = .ok (.iastore, 1) := by decide +kernel
theorem dX3_goIn_65 : decode cX3_goIn 65 = .ok (.aload_n 0, 1) := by decide +kernel
theorem dX3_goIn_66 : decode cX3_goIn 66 = .ok (.dup, 1) := by decide +kernel
theorem dX3_goIn_67 : decode cX3_goIn 67 = .ok (.getfield 72, 3) := by decide +kernel
theorem dX3_goIn_70 : decode cX3_goIn 70 = .ok (.iconst 1, 1) := by decide +kernel
theorem dX3_goIn_71 : decode cX3_goIn 71 = .ok (.iadd, 1) := by decide +kernel
theorem dX3_goIn_72 : decode cX3_goIn 72 = .ok (.putfield 72, 3) := by decide +kernel
theorem dX3_goIn_75 : decode cX3_goIn 75 = .ok (.iconst 0, 1) := by decide +kernel
theorem dX3_goIn_76 : decode cX3_goIn 76 = .ok (.ireturn, 1) := by decide +kernel
set_option maxRecDepth 20000 in
theorem ggX3_carry_X3_comes : GoodIn wsX3_carry wsX3_comes := goodIn_ca (goodIn_r _ [8, 3, 9, 10, 11, 12, 13, 14, 15, 16, 17, 18, 19, 20, 21, 22, 23, 24, 25, 26, 27, 28, 29, 30] (by decide +kernel) (by decide +kernel)) (goodIn_sub (fun _ h => List.mem_cons_of_mem _ (List.mem_append_right _ h)) (by decide +kernel))
set_option maxRecDepth 20000 in
theorem gX3_carry_X3_comes : GoodIn wsX3_carry (wsV RX3 78 RX3 yX3_comes wsX3_comes) := goodIn_app (goodIn_of _ (by decide +kernel)) ggX3_carry_X3_comes
theorem dX3_carry_0 : decode cX3_carry 0 = .ok (.aload_n 0, 1) := by decide +kernel
theorem dX3_carry_1 : decode cX3_carry 1 = .ok (.getfield 38, 3) := by decide +kernel
theorem dX3_carry_4 : decode cX3_carry 4 = .ok (.aload_n 0, 1) := by decide +kernel
theorem dX3_carry_5 : decode cX3_carry 5 = .ok (.getfield 72, 3) := by decide +kernel
theorem dX3_carry_8 : decode cX3_carry 8 = .ok (.iconst 1, 1) := by decide +kernel
theorem dX3_carry_9 : decode cX3_carry 9 = .ok (.isub, 1) := by decide +kernel
theorem dX3_carry_10 : decode cX3_carry 10 = .ok (.iaload, 1) := by decide +kernel
theorem dX3_carry_11 : decode cX3_carry 11 = .ok (.istore_n 2, 1) := by decide +kernel
theorem dX3_carry_12 : decode cX3_carry 12 = .ok (.aload_n 0, 1) := by decide +kernel
theorem dX3_carry_13 : decode cX3_carry 13 = .ok (.getfield 13, 3) := by decide +kernel
theorem dX3_carry_16 : decode cX3_carry 16 = .ok (.iload_n 2, 1) := by decide +kernel
theorem dX3_carry_17 : decode cX3_carry 17 = .ok (.iaload, 1) := by decide +kernel
theorem dX3_carry_18 : decode cX3_carry 18 = .ok (.iload_n 1, 1) := by decide +kernel
theorem dX3_carry_19 : decode cX3_carry 19 = .ok (.if_icmp .ge 5, 3) := by decide +kernel
theorem dX3_carry_22 : decode cX3_carry 22 = .ok (.iconst 4, 1) := by decide +kernel
theorem dX3_carry_23 : decode cX3_carry 23 = .ok (.ireturn, 1) := by decide +kernel
theorem dX3_carry_24 : decode cX3_carry 24 = .ok (.aload_n 0, 1) := by decide +kernel
theorem dX3_carry_25 : decode cX3_carry 25 = .ok (.getfield 13, 3) := by decide +kernel
theorem dX3_carry_28 : decode cX3_carry 28 = .ok (.iload_n 2, 1) := by decide +kernel
theorem dX3_carry_29 : decode cX3_carry 29 = .ok (.dup2, 1) := by decide +kernel
theorem dX3_carry_30 : decode cX3_carry 30 = .ok (.iaload, 1) := by decide +kernel
theorem dX3_carry_31 : decode cX3_carry 31 = .ok (.iload_n 1, 1) := by decide +kernel
theorem dX3_carry_32 : decode cX3_carry 32 = .ok (.isub, 1) := by decide +kernel
theorem dX3_carry_33 : decode cX3_carry 33 = .ok (.iastore, 1) := by decide +kernel
theorem dX3_carry_34 : decode cX3_carry 34 = .ok (.aload_n 0, 1) := by decide +kernel
theorem dX3_carry_35 : decode cX3_carry 35 = .ok (.aload_n 0, 1) := by decide +kernel
theorem dX3_carry_36 : decode cX3_carry 36 = .ok (.getfield 38, 3) := by decide +kernel
theorem dX3_carry_39 : decode cX3_carry 39 = .ok (.aload_n 0, 1) := by decide +kernel
theorem dX3_carry_40 : decode cX3_carry 40 = .ok (.getfield 72, 3) := by decide +kernel
theorem dX3_carry_43 : decode cX3_carry 43 = .ok (.iconst 2, 1) := by decide +kernel
theorem dX3_carry_44 : decode cX3_carry 44 = .ok (.isub, 1) := by decide +kernel
theorem dX3_carry_45 : decode cX3_carry 45 = .ok (.iaload, 1) := by decide +kernel
theorem dX3_carry_46 : decode cX3_carry 46 = .ok (.iload_n 1, 1) := by decide +kernel
theorem dX3_carry_47 : decode cX3_carry 47 = .ok (.invokevirtual 78, 3) := by decide +kernel
theorem dX3_carry_50 : decode cX3_carry 50 = .ok (.ireturn, 1) := by decide +kernel
theorem dX3_share_0 : decode cX3_share 0 = .ok (.iload_n 1, 1) := by decide +kernel
theorem dX3_share_1 : decode cX3_share 1 = .ok (.ifCond .ne 5, 3) := by decide +kernel
theorem dX3_share_4 : decode cX3_share 4 = .ok (.iconst 5, 1) := by decide +kernel
theorem dX3_share_5 : decode cX3_share 5 = .ok (.ireturn, 1) := by decide +kernel
theorem dX3_share_6 : decode cX3_share 6 = .ok (.aload_n 0, 1) := by decide +kernel
theorem dX3_share_7 : decode cX3_share 7 = .ok (.getfield 13, 3) := by decide +kernel
theorem dX3_share_10 : decode cX3_share 10 = .ok (.aload_n 0, 1) := by decide +kernel
theorem dX3_share_11 : decode cX3_share 11 = .ok (.getfield 38, 3) := by decide +kernel
theorem dX3_share_14 : decode cX3_share 14 = .ok (.aload_n 0, 1) := by decide +kernel
theorem dX3_share_15 : decode cX3_share 15 = .ok (.getfield 72, 3) := by decide +kernel
theorem dX3_share_18 : decode cX3_share 18 = .ok (.iconst 1, 1) := by decide +kernel
theorem dX3_share_19 : decode cX3_share 19 = .ok (.isub, 1) := by decide +kernel
theorem dX3_share_20 : decode cX3_share 20 = .ok (.iaload, 1) := by decide +kernel
theorem dX3_share_21 : decode cX3_share 21 = .ok (.aload_n 0, 1) := by decide +kernel
theorem dX3_share_22 : decode cX3_share 22 = .ok (.getfield 13, 3) := by decide +kernel
theorem dX3_share_25 : decode cX3_share 25 = .ok (.aload_n 0, 1) := by decide +kernel
theorem dX3_share_26 : decode cX3_share 26 = .ok (.getfield 38, 3) := by decide +kernel
theorem dX3_share_29 : decode cX3_share 29 = .ok (.aload_n 0, 1) := by decide +kernel
theorem dX3_share_30 : decode cX3_share 30 = .ok (.getfield 72, 3) := by decide +kernel
theorem dX3_share_33 : decode cX3_share 33 = .ok (.iconst 1, 1) := by decide +kernel
theorem dX3_share_34 : decode cX3_share 34 = .ok (.isub, 1) := by decide +kernel
theorem dX3_share_35 : decode cX3_share 35 = .ok (.iaload, 1) := by decide +kernel
theorem dX3_share_36 : decode cX3_share 36 = .ok (.iaload, 1) := by decide +kernel
theorem dX3_share_37 : decode cX3_share 37 = .ok (.iload_n 1, 1) := by decide +kernel
theorem dX3_share_38 : decode cX3_share 38 = .ok (.idiv, 1) := by decide +kernel
theorem dX3_share_39 : decode cX3_share 39 = .ok (.iastore, 1) := by decide +kernel
theorem dX3_share_40 : decode cX3_share 40 = .ok (.iconst 0, 1) := by decide +kernel
theorem dX3_share_41 : decode cX3_share 41 = .ok (.ireturn, 1) := by decide +kernel
set_option maxRecDepth 20000 in
theorem ggX3_write_X3_isIn : GoodIn wsX3_write wsX3_isIn := goodIn_r _ [8] (by decide +kernel) (by decide +kernel)
set_option maxRecDepth 20000 in
theorem gX3_write_X3_isIn : GoodIn wsX3_write (va_wsS RX3 60 yX3_isIn wsX3_isIn) := goodIn_app (goodIn_of _ (by decide +kernel)) ggX3_write_X3_isIn
theorem dX3_write_0 : decode cX3_write 0 = .ok (.iload_n 1, 1) := by decide +kernel
theorem dX3_write_1 : decode cX3_write 1 = .ok (.iconst 0, 1) := by decide +kernel
theorem dX3_write_2 : decode cX3_write 2 = .ok (.bipush 7, 2) := by decide +kernel
theorem dX3_write_4 : decode cX3_write 4 = .ok (.invokestatic 60, 3) := by decide +kernel
theorem dX3_write_7 : decode cX3_write 7 = .ok (.ifCond .ne 6, 3) := by decide +kernel
theorem dX3_write_10 : decode cX3_write 10 = .ok (.bipush 6, 2) := by decide +kernel
theorem dX3_write_12 : decode cX3_write 12 = .ok (.ireturn, 1) := by decide +kernel
theorem dX3_write_13 : decode cX3_write 13 = .ok (.aload_n 0, 1) := by decide +kernel
theorem dX3_write_14 : decode cX3_write 14 = .ok (.getfield 29, 3) := by decide +kernel
theorem dX3_write_17 : decode cX3_write 17 = .ok (.iload_n 1, 1) := by decide +kernel
theorem dX3_write_18 : decode cX3_write 18 = .ok (.aload_n 0, 1) := by decide +kernel
theorem dX3_write_19 : decode cX3_write 19 = .ok (.getfield 72, 3) := by decide +kernel
theorem dX3_write_22 : decode cX3_write 22 = .ok (.ifCond .ne 7, 3) := by decide +kernel
theorem dX3_write_25 : decode cX3_write 25 = .ok (.iconst (-1), 1) := by decide +kernel
theorem dX3_write_26 : decode cX3_write 26 = .ok (.goto 19, 3) := by decide +kernel
theorem dX3_write_29 : decode cX3_write 29 = .ok (.aload_n 0, 1) := by decide +kernel
theorem dX3_write_30 : decode cX3_write 30 = .ok (.getfield 13, 3) := by decide +kernel
theorem dX3_write_33 : decode cX3_write 33 = .ok (.aload_n 0, 1) := by decide +kernel
theorem dX3_write_34 : decode cX3_write 34 = .ok (.getfield 38, 3) := by decide +kernel
theorem dX3_write_37 : decode cX3_write 37 = .ok (.aload_n 0, 1) := by decide +kernel
theorem dX3_write_38 : decode cX3_write 38 = .ok (.getfield 72, 3) := by decide +kernel
theorem dX3_write_41 : decode cX3_write 41 = .ok (.iconst 1, 1) := by decide +kernel
theorem dX3_write_42 : decode cX3_write 42 = .ok (.isub, 1) := by decide +kernel
theorem dX3_write_43 : decode cX3_write 43 = .ok (.iaload, 1) := by decide +kernel
theorem dX3_write_44 : decode cX3_write 44 = .ok (.iaload, 1) := by decide +kernel
theorem dX3_write_45 : decode cX3_write 45 = .ok (.iastore, 1) := by decide +kernel
theorem dX3_write_46 : decode cX3_write 46 = .ok (.iconst 0, 1) := by decide +kernel
theorem dX3_write_47 : decode cX3_write 47 = .ok (.ireturn, 1) := by decide +kernel
set_option maxRecDepth 20000 in
theorem ggX3_does_X3_modulo : GoodIn wsX3_does wsX3_modulo := goodIn_r _ [10] (by decide +kernel) (by decide +kernel)
set_option maxRecDepth 20000 in
theorem gX3_does_X3_modulo : GoodIn wsX3_does (va_wsS RX3 82 yX3_modulo wsX3_modulo) := goodIn_app (goodIn_of _ (by decide +kernel)) ggX3_does_X3_modulo
set_option maxRecDepth 20000 in
theorem ggX3_does_X3_goIn : GoodIn wsX3_does wsX3_goIn := goodIn_ca (goodIn_r _ [14, 1, 15, 16, 2, 6, 4, 5, 39, 40, 41, 42, 43, 44, 45, 46, 47, 48, 49, 50, 51, 52, 53, 54, 55, 56, 57, 58] (by decide +kernel) (by decide +kernel)) (goodIn_sub (fun _ h => List.mem_cons_of_mem _ (List.mem_append_right _ h)) (by decide +kernel))
set_option maxRecDepth 20000 in
theorem gX3_does_X3_goIn : GoodIn wsX3_does (wsV RX3 85 RX3 yX3_goIn wsX3_goIn) := goodIn_app (goodIn_of _ (by decide +kernel)) ggX3_does_X3_goIn
set_option maxRecDepth 20000 in
theorem ggX3_does_X3_comes : GoodIn wsX3_does wsX3_comes := goodIn_ca (goodIn_r _ [20, 21, 15, 22, 39, 40, 41, 42, 43, 44, 45, 46, 47, 48, 49, 50, 51, 52, 53, 54, 55, 56, 57, 58] (by decide +kernel) (by decide +kernel)) (goodIn_sub (fun _ h => List.mem_cons_of_mem _ (List.mem_append_right _ h)) (by decide +kernel))
set_option maxRecDepth 20000 in
theorem gX3_does_X3_comes : GoodIn wsX3_does (wsV RX3 78 RX3 yX3_comes wsX3_comes) := goodIn_app (goodIn_of _ (by decide +kernel)) ggX3_does_X3_comes
set_option maxRecDepth 20000 in
theorem ggX3_does_X3_carry : GoodIn wsX3_does wsX3_carry := goodIn_ca (goodIn_r _ [26, 2, 1, 21, 17, 18, 19, 9, 20, 15, 22, 39, 40, 41, 42, 43, 44, 45, 46, 47, 48, 49, 50, 51, 52, 53, 54, 55, 56, 57, 58] (by decide +kernel) (by decide +kernel)) (goodIn_sub (fun _ h => List.mem_cons_of_mem _ (List.mem_append_right _ h)) (by decide +kernel))
set_option maxRecDepth 20000 in
theorem gX3_does_X3_carry : GoodIn wsX3_does (wsV RX3 89 RX3 yX3_carry wsX3_carry) := goodIn_app (goodIn_of _ (by decide +kernel)) ggX3_does_X3_carry
set_option maxRecDepth 20000 in
theorem ggX3_does_X3_share : GoodIn wsX3_does wsX3_share := goodIn_ca (goodIn_r _ [30, 21, 2, 1, 39, 40, 41, 42, 43, 44, 45, 46, 47, 48, 49, 50, 51, 52, 53, 54, 55, 56, 57, 58] (by decide +kernel) (by decide +kernel)) (goodIn_sub (fun _ h => List.mem_cons_of_mem _ (List.mem_append_right _ h)) (by decide +kernel))
set_option maxRecDepth 20000 in
theorem gX3_does_X3_share : GoodIn wsX3_does (wsV RX3 92 RX3 yX3_share wsX3_share) := goodIn_app (goodIn_of _ (by decide +kernel)) ggX3_does_X3_share
set_option maxRecDepth 20000 in
theorem ggX3_does_X3_write : GoodIn wsX3_does wsX3_write := goodIn_ca (goodIn_r _ [34, 35, 1, 21, 2, 36, 37, 9, 38, 39, 40, 41, 42, 43, 44, 45, 46, 47, 48, 49, 50, 51, 52, 53, 54, 55, 56, 57, 58] (by decide +kernel) (by decide +kernel)) (goodIn_sub (fun _ h => List.mem_cons_of_mem _ (List.mem_append_right _ h)) (by decide +kernel))
set_option maxRecDepth 20000 in
theorem gX3_does_X3_write : GoodIn wsX3_does (wsV RX3 95 RX3 yX3_write wsX3_write) := goodIn_app (goodIn_of _ (by decide +kernel)) ggX3_does_X3_write
theorem dX3_does_0 : decode cX3_does 0 = .ok (.iload_n 1, 1) := by decide +kernel
theorem dX3_does_1 : decode cX3_does 1 = .ok (.tableswitch 190 0 7 #[47, 58, 81, 115, 139, 161, 167, 174], 47) := by decide +kernel
theorem dX3_does_48 : decode cX3_does 48 = .ok (.aload_n 0, 1) := by decide +kernel
theorem dX3_does_49 : decode cX3_does 49 = .ok (.iload_n 2, 1) := by decide +kernel
theorem dX3_does_50 : decode cX3_does 50 = .ok (.bipush 8, 2) := by decide +kernel
theorem dX3_does_52 : decode cX3_does 52 = .ok (.invokestatic 82, 3) := by decide +kernel
theorem dX3_does_55 : decode cX3_does 55 = .ok (.invokevirtual 85, 3) := by decide +kernel
theorem dX3_does_58 : decode cX3_does 58 = .ok (.ireturn, 1) := by decide +kernel
theorem dX3_does_59 : decode cX3_does 59 = .ok (.aload_n 0, 1) := by decide +kernel
theorem dX3_does_60 : decode cX3_does 60 = .ok (.dup, 1) := by decide +kernel
theorem dX3_does_61 : decode cX3_does 61 = .ok (.getfield 72, 3) := by decide +kernel
theorem dX3_does_64 : decode cX3_does 64 = .ok (.aload_n 0, 1) := by decide +kernel
theorem dX3_does_65 : decode cX3_does 65 = .ok (.getfield 72, 3) := by decide +kernel
theorem dX3_does_68 : decode cX3_does 68 = .ok (.ifCond .le 7, 3) := by decide +kernel
theorem dX3_does_71 : decode cX3_does 71 = .ok (.iconst 1, 1) := by decide +kernel
theorem dX3_does_72 : decode cX3_does 72 = .ok (.goto 4, 3) := by decide +kernel
theorem dX3_does_75 : decode cX3_does 75 = .ok (.iconst 0, 1) := by decide +kernel
theorem dX3_does_76 : decode cX3_does 76 = .ok (.isub, 1) := by decide +kernel
theorem dX3_does_77 : decode cX3_does 77 = .ok (.putfield 72, 3) := by decide +kernel
theorem dX3_does_80 : decode cX3_does 80 = .ok (.iconst 0, 1) := by decide +kernel
theorem dX3_does_81 : decode cX3_does 81 = .ok (.ireturn, 1) := by decide +kernel
theorem dX3_does_82 : decode cX3_does 82 = .ok (.aload_n 0, 1) := by decide +kernel
theorem dX3_does_83 : decode cX3_does 83 = .ok (.getfield 72, 3) := by decide +kernel
theorem dX3_does_86 : decode cX3_does 86 = .ok (.ifCond .ne 7, 3) := by decide +kernel
theorem dX3_does_89 : decode cX3_does 89 = .ok (.iconst 0, 1) := by decide +kernel
theorem dX3_does_90 : decode cX3_does 90 = .ok (.goto 25, 3) := by decide +kernel
theorem dX3_does_93 : decode cX3_does 93 = .ok (.aload_n 0, 1) := by decide +kernel
theorem dX3_does_94 : decode cX3_does 94 = .ok (.aload_n 0, 1) := by decide +kernel
theorem dX3_does_95 : decode cX3_does 95 = .ok (.getfield 38, 3) := by decide +kernel
theorem dX3_does_98 : decode cX3_does 98 = .ok (.aload_n 0, 1) := by decide +kernel
theorem dX3_does_99 : decode cX3_does 99 = .ok (.getfield 72, 3) := by decide +kernel
theorem dX3_does_102 : decode cX3_does 102 = .ok (.iconst 1, 1) := by decide +kernel
theorem dX3_does_103 : decode cX3_does 103 = .ok (.isub, 1) := by decide +kernel
theorem dX3_does_104 : decode cX3_does 104 = .ok (.iaload, 1) := by decide +kernel
theorem dX3_does_105 : decode cX3_does 105 = .ok (.iload_n 2, 1) := by decide +kernel
theorem dX3_does_106 : decode cX3_does 106 = .ok (.sipush 1000, 3) := by decide +kernel
theorem dX3_does_109 : decode cX3_does 109 = .ok (.invokestatic 82, 3) := by decide +kernel
theorem dX3_does_112 : decode cX3_does 112 = .ok (.invokevirtual 78, 3) := by decide +kernel
theorem dX3_does_115 : decode cX3_does 115 = .ok (.ireturn, 1) := by decide +kernel
theorem dX3_does_116 : decode cX3_does 116 = .ok (.aload_n 0, 1) := by decide +kernel
theorem dX3_does_117 : decode cX3_does 117 = .ok (.getfield 72, 3) := by decide +kernel
theorem dX3_does_120 : decode cX3_does 120 = .ok (.iconst 2, 1) := by decide +kernel
theorem dX3_does_121 : decode cX3_does 121 = .ok (.if_icmp .ge 7, 3) := by decide +kernel
theorem dX3_does_124 : decode cX3_does 124 = .ok (.iconst 0, 1) := by decide +kernel
theorem dX3_does_125 : decode cX3_does 125 = .ok (.goto 14, 3) := by decide +kernel
theorem dX3_does_128 : decode cX3_does 128 = .ok (.aload_n 0, 1) := by decide +kernel
theorem dX3_does_129 : decode cX3_does 129 = .ok (.iload_n 2, 1) := by decide +kernel
theorem dX3_does_130 : decode cX3_does 130 = .ok (.sipush 1000, 3) := by decide +kernel
theorem dX3_does_133 : decode cX3_does 133 = .ok (.invokestatic 82, 3) := by decide +kernel
theorem dX3_does_136 : decode cX3_does 136 = .ok (.invokevirtual 89, 3) := by decide +kernel
theorem dX3_does_139 : decode cX3_does 139 = .ok (.ireturn, 1) := by decide +kernel
theorem dX3_does_140 : decode cX3_does 140 = .ok (.aload_n 0, 1) := by decide +kernel
theorem dX3_does_141 : decode cX3_does 141 = .ok (.getfield 72, 3) := by decide +kernel
theorem dX3_does_144 : decode cX3_does 144 = .ok (.ifCond .ne 7, 3) := by decide +kernel
theorem dX3_does_147 : decode cX3_does 147 = .ok (.iconst 0, 1) := by decide +kernel
theorem dX3_does_148 : decode cX3_does 148 = .ok (.goto 13, 3) := by decide +kernel
theorem dX3_does_151 : decode cX3_does 151 = .ok (.aload_n 0, 1) := by decide +kernel
theorem dX3_does_152 : decode cX3_does 152 = .ok (.iload_n 2, 1) := by decide +kernel
theorem dX3_does_153 : decode cX3_does 153 = .ok (.bipush 10, 2) := by decide +kernel
theorem dX3_does_155 : decode cX3_does 155 = .ok (.invokestatic 82, 3) := by decide +kernel
theorem dX3_does_158 : decode cX3_does 158 = .ok (.invokevirtual 92, 3) := by decide +kernel
theorem dX3_does_161 : decode cX3_does 161 = .ok (.ireturn, 1) := by decide +kernel
theorem dX3_does_162 : decode cX3_does 162 = .ok (.aload_n 0, 1) := by decide +kernel
theorem dX3_does_163 : decode cX3_does 163 = .ok (.iload_n 2, 1) := by decide +kernel
theorem dX3_does_164 : decode cX3_does 164 = .ok (.invokevirtual 95, 3) := by decide +kernel
theorem dX3_does_167 : decode cX3_does 167 = .ok (.ireturn, 1) := by decide +kernel
theorem dX3_does_168 : decode cX3_does 168 = .ok (.aload_n 0, 1) := by decide +kernel
theorem dX3_does_169 : decode cX3_does 169 = .ok (.iconst 1, 1) := by decide +kernel
theorem dX3_does_170 : decode cX3_does 170 = .ok (.putfield 98, 3) := by decide +kernel
theorem dX3_does_173 : decode cX3_does 173 = .ok (.iconst 0, 1) := by decide +kernel
theorem dX3_does_174 : decode cX3_does 174 = .ok (.ireturn, 1) := by decide +kernel
theorem dX3_does_175 : decode cX3_does 175 = .ok (.aload_n 0, 1) := by decide +kernel
theorem dX3_does_176 : decode cX3_does 176 = .ok (.dup, 1) := by decide +kernel
theorem dX3_does_177 : decode cX3_does 177 = .ok (.getfield 75, 3) := by decide +kernel
theorem dX3_does_180 : decode cX3_does 180 = .ok (.iload_n 2, 1) := by decide +kernel
theorem dX3_does_181 : decode cX3_does 181 = .ok (.iconst 4, 1) := by decide +kernel
theorem dX3_does_182 : decode cX3_does 182 = .ok (.invokestatic 82, 3) := by decide +kernel
theorem dX3_does_185 : decode cX3_does 185 = .ok (.iadd, 1) := by decide +kernel
theorem dX3_does_186 : decode cX3_does 186 = .ok (.putfield 75, 3) := by decide +kernel
theorem dX3_does_189 : decode cX3_does 189 = .ok (.iconst 0, 1) := by decide +kernel
theorem dX3_does_190 : decode cX3_does 190 = .ok (.ireturn, 1) := by decide +kernel
theorem dX3_does_191 : decode cX3_does 191 = .ok (.aload_n 0, 1) := by decide +kernel
theorem dX3_does_192 : decode cX3_does 192 = .ok (.getfield 72, 3) := by decide +kernel
theorem dX3_does_195 : decode cX3_does 195 = .ok (.ifCond .le 52, 3) := by decide +kernel
theorem dX3_does_198 : decode cX3_does 198 = .ok (.aload_n 0, 1) := by decide +kernel
theorem dX3_does_199 : decode cX3_does 199 = .ok (.getfield 44, 3) := by decide +kernel
theorem dX3_does_202 : decode cX3_does 202 = .ok (.aload_n 0, 1) := by decide +kernel
theorem dX3_does_203 : decode cX3_does 203 = .ok (.getfield 72, 3) := by decide +kernel
theorem dX3_does_206 : decode cX3_does 206 = .ok (.iconst 1, 1) := by decide +kernel
theorem dX3_does_207 : decode cX3_does 207 = .ok (.isub, 1) := by decide +kernel
theorem dX3_does_208 : decode cX3_does 208 = .ok (.iaload, 1) := by decide +kernel
theorem dX3_does_209 : decode cX3_does 209 = .ok (.iload_n 2, 1) := by decide +kernel
theorem dX3_does_210 : decode cX3_does 210 = .ok (.iconst 4, 1) := by decide +kernel
theorem dX3_does_211 : decode cX3_does 211 = .ok (.invokestatic 82, 3) := by decide +kernel
theorem dX3_does_214 : decode cX3_does 214 = .ok (.if_icmp .ge 33, 3) := by decide +kernel
theorem dX3_does_217 : decode cX3_does 217 = .ok (.aload_n 0, 1) := by decide +kernel
theorem dX3_does_218 : decode cX3_does 218 = .ok (.getfield 44, 3) := by decide +kernel
theorem dX3_does_221 : decode cX3_does 221 = .ok (.aload_n 0, 1) := by decide +kernel
theorem dX3_does_222 : decode cX3_does 222 = .ok (.getfield 72, 3) := by decide +kernel
theorem dX3_does_225 : decode cX3_does 225 = .ok (.iconst 1, 1) := by decide +kernel
theorem dX3_does_226 : decode cX3_does 226 = .ok (.isub, 1) := by decide +kernel
theorem dX3_does_227 : decode cX3_does 227 = .ok (.dup2, 1) := by decide +kernel
theorem dX3_does_228 : decode cX3_does 228 = .ok (.iaload, 1) := by decide +kernel
theorem dX3_does_229 : decode cX3_does 229 = .ok (.iconst 1, 1) := by decide +kernel
theorem dX3_does_230 : decode cX3_does 230 = .ok (.iadd, 1) := by decide +kernel
theorem dX3_does_231 : decode cX3_does 231 = .ok (.iastore, 1) := by decide +kernel
theorem dX3_does_232 : decode cX3_does 232 = .ok (.aload_n 0, 1) := by decide +kernel
theorem dX3_does_233 : decode cX3_does 233 = .ok (.aload_n 0, 1) := by decide +kernel
theorem dX3_does_234 : decode cX3_does 234 = .ok (.getfield 41, 3) := by decide +kernel
theorem dX3_does_237 : decode cX3_does 237 = .ok (.aload_n 0, 1) := by decide +kernel
theorem dX3_does_238 : decode cX3_does 238 = .ok (.getfield 72, 3) := by decide +kernel
theorem dX3_does_241 : decode cX3_does 241 = .ok (.iconst 1, 1) := by decide +kernel
theorem dX3_does_242 : decode cX3_does 242 = .ok (.isub, 1) := by decide +kernel
theorem dX3_does_243 : decode cX3_does 243 = .ok (.iaload, 1) := by decide +kernel
theorem dX3_does_244 : decode cX3_does 244 = .ok (.putfield 75, 3) := by decide +kernel
theorem dX3_does_247 : decode cX3_does 247 = .ok (.iconst 0, 1) := by decide +kernel
theorem dX3_does_248 : decode cX3_does 248 = .ok (.ireturn, 1) := by decide +kernel
theorem dX3_isCaught_0 : decode cX3_isCaught 0 = .ok (.aload_n 0, 1) := by decide +kernel
theorem dX3_isCaught_1 : decode cX3_isCaught 1 = .ok (.getfield 72, 3) := by decide +kernel
theorem dX3_isCaught_4 : decode cX3_isCaught 4 = .ok (.ifCond .le 50, 3) := by decide +kernel
theorem dX3_isCaught_7 : decode cX3_isCaught 7 = .ok (.aload_n 0, 1) := by decide +kernel
theorem dX3_isCaught_8 : decode cX3_isCaught 8 = .ok (.dup, 1) := by decide +kernel
theorem dX3_isCaught_9 : decode cX3_isCaught 9 = .ok (.getfield 72, 3) := by decide +kernel
theorem dX3_isCaught_12 : decode cX3_isCaught 12 = .ok (.iconst 1, 1) := by decide +kernel
theorem dX3_isCaught_13 : decode cX3_isCaught 13 = .ok (.isub, 1) := by decide +kernel
theorem dX3_isCaught_14 : decode cX3_isCaught 14 = .ok (.putfield 72, 3) := by decide +kernel
theorem dX3_isCaught_17 : decode cX3_isCaught 17 = .ok (.aload_n 0, 1) := by decide +kernel
theorem dX3_isCaught_18 : decode cX3_isCaught 18 = .ok (.getfield 16, 3) := by decide +kernel
theorem dX3_isCaught_21 : decode cX3_isCaught 21 = .ok (.aload_n 0, 1) := by decide +kernel
theorem dX3_isCaught_22 : decode cX3_isCaught 22 = .ok (.getfield 38, 3) := by decide +kernel
theorem dX3_isCaught_25 : decode cX3_isCaught 25 = .ok (.aload_n 0, 1) := by decide +kernel
theorem dX3_isCaught_26 : decode cX3_isCaught 26 = .ok (.getfield 72, 3) := by decide +kernel
theorem dX3_isCaught_29 : decode cX3_isCaught 29 = .ok (.iaload, 1) := by decide +kernel
theorem dX3_isCaught_30 : decode cX3_isCaught 30 = .ok (.baload, 1) := by decide +kernel
theorem dX3_isCaught_31 : decode cX3_isCaught 31 = .ok (.ifCond .eq (-31), 3) := by decide +kernel
theorem dX3_isCaught_34 : decode cX3_isCaught 34 = .ok (.aload_n 0, 1) := by decide +kernel
theorem dX3_isCaught_35 : decode cX3_isCaught 35 = .ok (.getfield 26, 3) := by decide +kernel
theorem dX3_isCaught_38 : decode cX3_isCaught 38 = .ok (.aload_n 0, 1) := by decide +kernel
theorem dX3_isCaught_39 : decode cX3_isCaught 39 = .ok (.getfield 38, 3) := by decide +kernel
theorem dX3_isCaught_42 : decode cX3_isCaught 42 = .ok (.aload_n 0, 1) := by decide +kernel
theorem dX3_isCaught_43 : decode cX3_isCaught 43 = .ok (.getfield 72, 3) := by decide +kernel
theorem dX3_isCaught_46 : decode cX3_isCaught 46 = .ok (.iaload, 1) := by decide +kernel
theorem dX3_isCaught_47 : decode cX3_isCaught 47 = .ok (.dup2, 1) := by decide +kernel
theorem dX3_isCaught_48 : decode cX3_isCaught 48 = .ok (.iaload, 1) := by decide +kernel
theorem dX3_isCaught_49 : decode cX3_isCaught 49 = .ok (.iconst 1, 1) := by decide +kernel
theorem dX3_isCaught_50 : decode cX3_isCaught 50 = .ok (.iadd, 1) := by decide +kernel
theorem dX3_isCaught_51 : decode cX3_isCaught 51 = .ok (.iastore, 1) := by decide +kernel
theorem dX3_isCaught_52 : decode cX3_isCaught 52 = .ok (.iconst 1, 1) := by decide +kernel
theorem dX3_isCaught_53 : decode cX3_isCaught 53 = .ok (.ireturn, 1) := by decide +kernel
theorem dX3_isCaught_54 : decode cX3_isCaught 54 = .ok (.iconst 0, 1) := by decide +kernel
theorem dX3_isCaught_55 : decode cX3_isCaught 55 = .ok (.ireturn, 1) := by decide +kernel
set_option maxRecDepth 20000 in
theorem ggX3_run_X3_does : GoodIn wsX3_run wsX3_does := goodIn_ca (goodIn_r _ [15, 4, 16, 6, 5, 17, 18, 19, 20, 14, 21, 22, 23, 24, 25, 26, 27, 28, 29, 30, 31, 32, 33, 34, 35, 36, 37, 38, 39, 40, 41, 42, 43, 44, 45, 46, 47, 48, 49, 56, 57, 58, 59, 60, 61, 62, 63, 64, 65, 66, 67, 68, 69, 70, 71, 72, 73, 74, 75] (by decide +kernel) (by decide +kernel)) (goodIn_sub (fun _ h => List.mem_cons_of_mem _ (List.mem_append_right _ h)) (by decide +kernel))
set_option maxRecDepth 20000 in
theorem gX3_run_X3_does : GoodIn wsX3_run (wsV RX3 105 RX3 yX3_does wsX3_does) := goodIn_app (goodIn_of _ (by decide +kernel)) ggX3_run_X3_does
set_option maxRecDepth 20000 in
theorem ggX3_run_X3_isCaught : GoodIn wsX3_run wsX3_isCaught := goodIn_ca (goodIn_r _ [53, 4, 54, 16, 55, 56, 57, 58, 59, 60, 61, 62, 63, 64, 65, 66, 67, 68, 69, 70, 71, 72, 73, 74, 75] (by decide +kernel) (by decide +kernel)) (goodIn_sub (fun _ h => List.mem_cons_of_mem _ (List.mem_append_right _ h)) (by decide +kernel))
set_option maxRecDepth 20000 in
theorem gX3_run_X3_isCaught : GoodIn wsX3_run (wsV RX3 108 RX3 yX3_isCaught wsX3_isCaught) := goodIn_app (goodIn_of _ (by decide +kernel)) ggX3_run_X3_isCaught
theorem dX3_run_0 : decode cX3_run 0 = .ok (.aload_n 0, 1) := by decide +kernel
theorem dX3_run_1 : decode cX3_run 1 = .ok (.iconst 0, 1) := by decide +kernel
theorem dX3_run_2 : decode cX3_run 2 = .ok (.putfield 57, 3) := by decide +kernel
theorem dX3_run_5 : decode cX3_run 5 = .ok (.aload_n 0, 1) := by decide +kernel
theorem dX3_run_6 : decode cX3_run 6 = .ok (.getfield 51, 3) := by decide +kernel
theorem dX3_run_9 : decode cX3_run 9 = .ok (.iconst 2, 1) := by decide +kernel
theorem dX3_run_10 : decode cX3_run 10 = .ok (.dup2, 1) := by decide +kernel
theorem dX3_run_11 : decode cX3_run 11 = .ok (.iaload, 1) := by decide +kernel
theorem dX3_run_12 : decode cX3_run 12 = .ok (.iconst 1, 1) := by decide +kernel
theorem dX3_run_13 : decode cX3_run 13 = .ok (.iadd, 1) := by decide +kernel
theorem dX3_run_14 : decode cX3_run 14 = .ok (.iastore, 1) := by decide +kernel
theorem dX3_run_15 : decode cX3_run 15 = .ok (.aload_n 0, 1) := by decide +kernel
theorem dX3_run_16 : decode cX3_run 16 = .ok (.iconst 0, 1) := by decide +kernel
theorem dX3_run_17 : decode cX3_run 17 = .ok (.putfield 102, 3) := by decide +kernel
theorem dX3_run_20 : decode cX3_run 20 = .ok (.aload_n 0, 1) := by decide +kernel
theorem dX3_run_21 : decode cX3_run 21 = .ok (.iconst 0, 1) := by decide +kernel
theorem dX3_run_22 : decode cX3_run 22 = .ok (.putfield 72, 3) := by decide +kernel
theorem dX3_run_25 : decode cX3_run 25 = .ok (.aload_n 0, 1) := by decide +kernel
theorem dX3_run_26 : decode cX3_run 26 = .ok (.iconst 0, 1) := by decide +kernel
theorem dX3_run_27 : decode cX3_run 27 = .ok (.putfield 75, 3) := by decide +kernel
theorem dX3_run_30 : decode cX3_run 30 = .ok (.aload_n 0, 1) := by decide +kernel
theorem dX3_run_31 : decode cX3_run 31 = .ok (.iconst 0, 1) := by decide +kernel
theorem dX3_run_32 : decode cX3_run 32 = .ok (.putfield 98, 3) := by decide +kernel
theorem dX3_run_35 : decode cX3_run 35 = .ok (.aload_n 0, 1) := by decide +kernel
theorem dX3_run_36 : decode cX3_run 36 = .ok (.getfield 75, 3) := by decide +kernel
theorem dX3_run_39 : decode cX3_run 39 = .ok (.aload_n 0, 1) := by decide +kernel
theorem dX3_run_40 : decode cX3_run 40 = .ok (.getfield 54, 3) := by decide +kernel
theorem dX3_run_43 : decode cX3_run 43 = .ok (.if_icmp .ge 124, 3) := by decide +kernel
theorem dX3_run_46 : decode cX3_run 46 = .ok (.aload_n 0, 1) := by decide +kernel
theorem dX3_run_47 : decode cX3_run 47 = .ok (.getfield 98, 3) := by decide +kernel
theorem dX3_run_50 : decode cX3_run 50 = .ok (.ifCond .ne 117, 3) := by decide +kernel
theorem dX3_run_53 : decode cX3_run 53 = .ok (.aload_n 0, 1) := by decide +kernel
theorem dX3_run_54 : decode cX3_run 54 = .ok (.getfield 102, 3) := by decide +kernel
theorem dX3_run_57 : decode cX3_run 57 = .ok (.bipush 80, 2) := by decide +kernel
theorem dX3_run_59 : decode cX3_run 59 = .ok (.if_icmp .ne 16, 3) := by decide +kernel
theorem dX3_run_62 : decode cX3_run 62 = .ok (.aload_n 0, 1) := by decide +kernel
theorem dX3_run_63 : decode cX3_run 63 = .ok (.getfield 51, 3) := by decide +kernel
theorem dX3_run_66 : decode cX3_run 66 = .ok (.iconst 4, 1) := by decide +kernel
theorem dX3_run_67 : decode cX3_run 67 = .ok (.dup2, 1) := by decide +kernel
theorem dX3_run_68 : decode cX3_run 68 = .ok (.iaload, 1) := by decide +kernel
theorem dX3_run_69 : decode cX3_run 69 = .ok (.iconst 1, 1) := by decide +kernel
theorem dX3_run_70 : decode cX3_run 70 = .ok (.iadd, 1) := by decide +kernel
theorem dX3_run_71 : decode cX3_run 71 = .ok (.iastore, 1) := by decide +kernel
theorem dX3_run_72 : decode cX3_run 72 = .ok (.bipush (-3), 2) := by decide +kernel
theorem dX3_run_74 : decode cX3_run 74 = .ok (.ireturn, 1) := by decide +kernel
theorem dX3_run_75 : decode cX3_run 75 = .ok (.aload_n 0, 1) := by decide +kernel
theorem dX3_run_76 : decode cX3_run 76 = .ok (.dup, 1) := by decide +kernel
theorem dX3_run_77 : decode cX3_run 77 = .ok (.getfield 102, 3) := by decide +kernel
theorem dX3_run_80 : decode cX3_run 80 = .ok (.iconst 1, 1) := by decide +kernel
theorem dX3_run_81 : decode cX3_run 81 = .ok (.iadd, 1) := by decide +kernel
theorem dX3_run_82 : decode cX3_run 82 = .ok (.putfield 102, 3) := by decide +kernel
theorem dX3_run_85 : decode cX3_run 85 = .ok (.aload_n 0, 1) := by decide +kernel
theorem dX3_run_86 : decode cX3_run 86 = .ok (.getfield 75, 3) := by decide +kernel
theorem dX3_run_89 : decode cX3_run 89 = .ok (.istore_n 1, 1) := by decide +kernel
theorem dX3_run_90 : decode cX3_run 90 = .ok (.aload_n 0, 1) := by decide +kernel
theorem dX3_run_91 : decode cX3_run 91 = .ok (.dup, 1) := by decide +kernel
theorem dX3_run_92 : decode cX3_run 92 = .ok (.getfield 75, 3) := by decide +kernel
theorem dX3_run_95 : decode cX3_run 95 = .ok (.iconst 1, 1) := by decide +kernel
theorem dX3_run_96 : decode cX3_run 96 = .ok (.iadd, 1) := by decide +kernel
theorem dX3_run_97 : decode cX3_run 97 = .ok (.putfield 75, 3) := by decide +kernel
theorem dX3_run_100 : decode cX3_run 100 = .ok (.aload_n 0, 1) := by decide +kernel
theorem dX3_run_101 : decode cX3_run 101 = .ok (.aload_n 0, 1) := by decide +kernel
theorem dX3_run_102 : decode cX3_run 102 = .ok (.getfield 32, 3) := by decide +kernel
theorem dX3_run_105 : decode cX3_run 105 = .ok (.iload_n 1, 1) := by decide +kernel
theorem dX3_run_106 : decode cX3_run 106 = .ok (.iaload, 1) := by decide +kernel
theorem dX3_run_107 : decode cX3_run 107 = .ok (.aload_n 0, 1) := by decide +kernel
theorem dX3_run_108 : decode cX3_run 108 = .ok (.getfield 35, 3) := by decide +kernel
theorem dX3_run_111 : decode cX3_run 111 = .ok (.iload_n 1, 1) := by decide +kernel
theorem dX3_run_112 : decode cX3_run 112 = .ok (.iaload, 1) := by decide +kernel
theorem dX3_run_113 : decode cX3_run 113 = .ok (.invokevirtual 105, 3) := by decide +kernel
theorem dX3_run_116 : decode cX3_run 116 = .ok (.istore_n 2, 1) := by decide +kernel
theorem dX3_run_117 : decode cX3_run 117 = .ok (.iload_n 2, 1) := by decide +kernel
theorem dX3_run_118 : decode cX3_run 118 = .ok (.ifCond .ne 6, 3) := by decide +kernel
theorem dX3_run_121 : decode cX3_run 121 = .ok (.goto (-86), 3) := by decide +kernel
theorem dX3_run_124 : decode cX3_run 124 = .ok (.aload_n 0, 1) := by decide +kernel
theorem dX3_run_125 : decode cX3_run 125 = .ok (.iload_n 1, 1) := by decide +kernel
theorem dX3_run_126 : decode cX3_run 126 = .ok (.putfield 47, 3) := by decide +kernel
theorem dX3_run_129 : decode cX3_run 129 = .ok (.aload_n 0, 1) := by decide +kernel
theorem dX3_run_130 : decode cX3_run 130 = .ok (.getfield 51, 3) := by decide +kernel
theorem dX3_run_133 : decode cX3_run 133 = .ok (.bipush 10, 2) := by decide +kernel
theorem dX3_run_135 : decode cX3_run 135 = .ok (.iload_n 2, 1) := by decide +kernel
theorem dX3_run_136 : decode cX3_run 136 = .ok (.iadd, 1) := by decide +kernel
theorem dX3_run_137 : decode cX3_run 137 = .ok (.dup2, 1) := by decide +kernel
theorem dX3_run_138 : decode cX3_run 138 = .ok (.iaload, 1) := by decide +kernel
theorem dX3_run_139 : decode cX3_run 139 = .ok (.iconst 1, 1) := by decide +kernel
theorem dX3_run_140 : decode cX3_run 140 = .ok (.iadd, 1) := by decide +kernel
theorem dX3_run_141 : decode cX3_run 141 = .ok (.iastore, 1) := by decide +kernel
theorem dX3_run_142 : decode cX3_run 142 = .ok (.aload_n 0, 1) := by decide +kernel
theorem dX3_run_143 : decode cX3_run 143 = .ok (.invokevirtual 108, 3) := by decide +kernel
theorem dX3_run_146 : decode cX3_run 146 = .ok (.ifCond .ne 18, 3) := by decide +kernel
theorem dX3_run_149 : decode cX3_run 149 = .ok (.aload_n 0, 1) := by decide +kernel
theorem dX3_run_150 : decode cX3_run 150 = .ok (.getfield 51, 3) := by decide +kernel
theorem dX3_run_153 : decode cX3_run 153 = .ok (.iconst 3, 1) := by decide +kernel
theorem dX3_run_154 : decode cX3_run 154 = .ok (.dup2, 1) := by decide +kernel
theorem dX3_run_155 : decode cX3_run 155 = .ok (.iaload, 1) := by decide +kernel
theorem dX3_run_156 : decode cX3_run 156 = .ok (.iconst 1, 1) := by decide +kernel
theorem dX3_run_157 : decode cX3_run 157 = .ok (.iadd, 1) := by decide +kernel
theorem dX3_run_158 : decode cX3_run 158 = .ok (.iastore, 1) := by decide +kernel
theorem dX3_run_159 : decode cX3_run 159 = .ok (.bipush (-10), 2) := by decide +kernel
theorem dX3_run_161 : decode cX3_run 161 = .ok (.iload_n 2, 1) := by decide +kernel
theorem dX3_run_162 : decode cX3_run 162 = .ok (.isub, 1) := by decide +kernel
theorem dX3_run_163 : decode cX3_run 163 = .ok (.ireturn, 1) := by decide +kernel
theorem dX3_run_164 : decode cX3_run 164 = .ok (.goto (-129), 3) := by decide +kernel
theorem dX3_run_167 : decode cX3_run 167 = .ok (.aload_n 0, 1) := by decide +kernel
theorem dX3_run_168 : decode cX3_run 168 = .ok (.getfield 51, 3) := by decide +kernel
theorem dX3_run_171 : decode cX3_run 171 = .ok (.iconst 5, 1) := by decide +kernel
theorem dX3_run_172 : decode cX3_run 172 = .ok (.dup2, 1) := by decide +kernel
theorem dX3_run_173 : decode cX3_run 173 = .ok (.iaload, 1) := by decide +kernel
theorem dX3_run_174 : decode cX3_run 174 = .ok (.aload_n 0, 1) := by decide +kernel
theorem dX3_run_175 : decode cX3_run 175 = .ok (.getfield 98, 3) := by decide +kernel
theorem dX3_run_178 : decode cX3_run 178 = .ok (.ifCond .eq 7, 3) := by decide +kernel
theorem dX3_run_181 : decode cX3_run 181 = .ok (.iconst 1, 1) := by decide +kernel
theorem dX3_run_182 : decode cX3_run 182 = .ok (.goto 4, 3) := by decide +kernel
theorem dX3_run_185 : decode cX3_run 185 = .ok (.iconst 0, 1) := by decide +kernel
theorem dX3_run_186 : decode cX3_run 186 = .ok (.iadd, 1) := by decide +kernel
theorem dX3_run_187 : decode cX3_run 187 = .ok (.iastore, 1) := by decide +kernel
theorem dX3_run_188 : decode cX3_run 188 = .ok (.aload_n 0, 1) := by decide +kernel
theorem dX3_run_189 : decode cX3_run 189 = .ok (.getfield 102, 3) := by decide +kernel
theorem dX3_run_192 : decode cX3_run 192 = .ok (.ireturn, 1) := by decide +kernel
theorem dX3_begun_0 : decode cX3_begun 0 = .ok (.aload_n 0, 1) := by decide +kernel
theorem dX3_begun_1 : decode cX3_begun 1 = .ok (.iconst 0, 1) := by decide +kernel
theorem dX3_begun_2 : decode cX3_begun 2 = .ok (.putfield 57, 3) := by decide +kernel
theorem dX3_begun_5 : decode cX3_begun 5 = .ok (.aload_n 0, 1) := by decide +kernel
theorem dX3_begun_6 : decode cX3_begun 6 = .ok (.getfield 102, 3) := by decide +kernel
theorem dX3_begun_9 : decode cX3_begun 9 = .ok (.ireturn, 1) := by decide +kernel
theorem dX3_where_0 : decode cX3_where 0 = .ok (.aload_n 0, 1) := by decide +kernel
theorem dX3_where_1 : decode cX3_where 1 = .ok (.iconst 0, 1) := by decide +kernel
theorem dX3_where_2 : decode cX3_where 2 = .ok (.putfield 57, 3) := by decide +kernel
theorem dX3_where_5 : decode cX3_where 5 = .ok (.aload_n 0, 1) := by decide +kernel
theorem dX3_where_6 : decode cX3_where 6 = .ok (.getfield 47, 3) := by decide +kernel
theorem dX3_where_9 : decode cX3_where 9 = .ok (.ireturn, 1) := by decide +kernel
set_option maxRecDepth 20000 in
theorem ggX3_house_X3_isHouse : GoodIn wsX3_house wsX3_isHouse := goodIn_ca (goodIn_r _ [12, 2, 13, 14, 11, 15, 16, 17, 18, 19, 20, 21, 22, 23, 24, 25, 26, 27, 28, 29, 30, 31, 32, 33, 34, 35, 36, 37, 38] (by decide +kernel) (by decide +kernel)) (goodIn_sub (fun _ h => List.mem_cons_of_mem _ (List.mem_append_right _ h)) (by decide +kernel))
set_option maxRecDepth 20000 in
theorem gX3_house_X3_isHouse : GoodIn wsX3_house (wsV RX3 112 RX3 yX3_isHouse wsX3_isHouse) := goodIn_app (goodIn_of _ (by decide +kernel)) ggX3_house_X3_isHouse
theorem dX3_house_0 : decode cX3_house 0 = .ok (.aload_n 0, 1) := by decide +kernel
theorem dX3_house_1 : decode cX3_house 1 = .ok (.iconst 0, 1) := by decide +kernel
theorem dX3_house_2 : decode cX3_house 2 = .ok (.putfield 57, 3) := by decide +kernel
theorem dX3_house_5 : decode cX3_house 5 = .ok (.aload_n 0, 1) := by decide +kernel
theorem dX3_house_6 : decode cX3_house 6 = .ok (.iload_n 1, 1) := by decide +kernel
theorem dX3_house_7 : decode cX3_house 7 = .ok (.invokevirtual 112, 3) := by decide +kernel
theorem dX3_house_10 : decode cX3_house 10 = .ok (.ifCond .ne 5, 3) := by decide +kernel
theorem dX3_house_13 : decode cX3_house 13 = .ok (.iconst (-1), 1) := by decide +kernel
theorem dX3_house_14 : decode cX3_house 14 = .ok (.ireturn, 1) := by decide +kernel
theorem dX3_house_15 : decode cX3_house 15 = .ok (.iload_n 2, 1) := by decide +kernel
theorem dX3_house_16 : decode cX3_house 16 = .ok (.tableswitch 96 0 6 #[44, 51, 58, 73, 80, 87, 94], 44) := by decide +kernel
theorem dX3_house_60 : decode cX3_house 60 = .ok (.aload_n 0, 1) := by decide +kernel
theorem dX3_house_61 : decode cX3_house 61 = .ok (.getfield 7, 3) := by decide +kernel
theorem dX3_house_64 : decode cX3_house 64 = .ok (.iload_n 1, 1) := by decide +kernel
theorem dX3_house_65 : decode cX3_house 65 = .ok (.iaload, 1) := by decide +kernel
theorem dX3_house_66 : decode cX3_house 66 = .ok (.ireturn, 1) := by decide +kernel
theorem dX3_house_67 : decode cX3_house 67 = .ok (.aload_n 0, 1) := by decide +kernel
theorem dX3_house_68 : decode cX3_house 68 = .ok (.getfield 13, 3) := by decide +kernel
theorem dX3_house_71 : decode cX3_house 71 = .ok (.iload_n 1, 1) := by decide +kernel
theorem dX3_house_72 : decode cX3_house 72 = .ok (.iaload, 1) := by decide +kernel
theorem dX3_house_73 : decode cX3_house 73 = .ok (.ireturn, 1) := by decide +kernel
theorem dX3_house_74 : decode cX3_house 74 = .ok (.aload_n 0, 1) := by decide +kernel
theorem dX3_house_75 : decode cX3_house 75 = .ok (.getfield 16, 3) := by decide +kernel
theorem dX3_house_78 : decode cX3_house 78 = .ok (.iload_n 1, 1) := by decide +kernel
theorem dX3_house_79 : decode cX3_house 79 = .ok (.baload, 1) := by decide +kernel
theorem dX3_house_80 : decode cX3_house 80 = .ok (.ifCond .eq 7, 3) := by decide +kernel
theorem dX3_house_83 : decode cX3_house 83 = .ok (.iconst 1, 1) := by decide +kernel
theorem dX3_house_84 : decode cX3_house 84 = .ok (.goto 4, 3) := by decide +kernel
theorem dX3_house_87 : decode cX3_house 87 = .ok (.iconst 0, 1) := by decide +kernel
theorem dX3_house_88 : decode cX3_house 88 = .ok (.ireturn, 1) := by decide +kernel
theorem dX3_house_89 : decode cX3_house 89 = .ok (.aload_n 0, 1) := by decide +kernel
theorem dX3_house_90 : decode cX3_house 90 = .ok (.getfield 20, 3) := by decide +kernel
theorem dX3_house_93 : decode cX3_house 93 = .ok (.iload_n 1, 1) := by decide +kernel
theorem dX3_house_94 : decode cX3_house 94 = .ok (.iaload, 1) := by decide +kernel
theorem dX3_house_95 : decode cX3_house 95 = .ok (.ireturn, 1) := by decide +kernel
theorem dX3_house_96 : decode cX3_house 96 = .ok (.aload_n 0, 1) := by decide +kernel
theorem dX3_house_97 : decode cX3_house 97 = .ok (.getfield 23, 3) := by decide +kernel
theorem dX3_house_100 : decode cX3_house 100 = .ok (.iload_n 1, 1) := by decide +kernel
theorem dX3_house_101 : decode cX3_house 101 = .ok (.iaload, 1) := by decide +kernel
theorem dX3_house_102 : decode cX3_house 102 = .ok (.ireturn, 1) := by decide +kernel
theorem dX3_house_103 : decode cX3_house 103 = .ok (.aload_n 0, 1) := by decide +kernel
theorem dX3_house_104 : decode cX3_house 104 = .ok (.getfield 26, 3) := by decide +kernel
theorem dX3_house_107 : decode cX3_house 107 = .ok (.iload_n 1, 1) := by decide +kernel
theorem dX3_house_108 : decode cX3_house 108 = .ok (.iaload, 1) := by decide +kernel
theorem dX3_house_109 : decode cX3_house 109 = .ok (.ireturn, 1) := by decide +kernel
theorem dX3_house_110 : decode cX3_house 110 = .ok (.iconst 0, 1) := by decide +kernel
theorem dX3_house_111 : decode cX3_house 111 = .ok (.ireturn, 1) := by decide +kernel
theorem dX3_house_112 : decode cX3_house 112 = .ok (.iconst (-1), 1) := by decide +kernel
theorem dX3_house_113 : decode cX3_house 113 = .ok (.ireturn, 1) := by decide +kernel
set_option maxRecDepth 20000 in
theorem ggX3_row_X3_isIn : GoodIn wsX3_row wsX3_isIn := goodIn_r _ [6] (by decide +kernel) (by decide +kernel)
set_option maxRecDepth 20000 in
theorem gX3_row_X3_isIn : GoodIn wsX3_row (va_wsS RX3 60 yX3_isIn wsX3_isIn) := goodIn_app (goodIn_of _ (by decide +kernel)) ggX3_row_X3_isIn
theorem dX3_row_0 : decode cX3_row 0 = .ok (.aload_n 0, 1) := by decide +kernel
theorem dX3_row_1 : decode cX3_row 1 = .ok (.iload_n 1, 1) := by decide +kernel
theorem dX3_row_2 : decode cX3_row 2 = .ok (.iconst 0, 1) := by decide +kernel
theorem dX3_row_3 : decode cX3_row 3 = .ok (.bipush 7, 2) := by decide +kernel
theorem dX3_row_5 : decode cX3_row 5 = .ok (.invokestatic 60, 3) := by decide +kernel
theorem dX3_row_8 : decode cX3_row 8 = .ok (.ifCond .eq 7, 3) := by decide +kernel
theorem dX3_row_11 : decode cX3_row 11 = .ok (.iconst 0, 1) := by decide +kernel
theorem dX3_row_12 : decode cX3_row 12 = .ok (.goto 4, 3) := by decide +kernel
theorem dX3_row_15 : decode cX3_row 15 = .ok (.iconst 1, 1) := by decide +kernel
theorem dX3_row_16 : decode cX3_row 16 = .ok (.putfield 57, 3) := by decide +kernel
theorem dX3_row_19 : decode cX3_row 19 = .ok (.aload_n 0, 1) := by decide +kernel
theorem dX3_row_20 : decode cX3_row 20 = .ok (.getfield 57, 3) := by decide +kernel
theorem dX3_row_23 : decode cX3_row 23 = .ok (.ifCond .ne 12, 3) := by decide +kernel
theorem dX3_row_26 : decode cX3_row 26 = .ok (.aload_n 0, 1) := by decide +kernel
theorem dX3_row_27 : decode cX3_row 27 = .ok (.getfield 29, 3) := by decide +kernel
theorem dX3_row_30 : decode cX3_row 30 = .ok (.iload_n 1, 1) := by decide +kernel
theorem dX3_row_31 : decode cX3_row 31 = .ok (.iaload, 1) := by decide +kernel
theorem dX3_row_32 : decode cX3_row 32 = .ok (.goto 4, 3) := by decide +kernel
theorem dX3_row_35 : decode cX3_row 35 = .ok (.iconst 0, 1) := by decide +kernel
theorem dX3_row_36 : decode cX3_row 36 = .ok (.ireturn, 1) := by decide +kernel
set_option maxRecDepth 20000 in
theorem ggX3_count_X3_isIn : GoodIn wsX3_count wsX3_isIn := goodIn_r _ [8] (by decide +kernel) (by decide +kernel)
set_option maxRecDepth 20000 in
theorem gX3_count_X3_isIn : GoodIn wsX3_count (va_wsS RX3 60 yX3_isIn wsX3_isIn) := goodIn_app (goodIn_of _ (by decide +kernel)) ggX3_count_X3_isIn
theorem dX3_count_0 : decode cX3_count 0 = .ok (.aload_n 0, 1) := by decide +kernel
theorem dX3_count_1 : decode cX3_count 1 = .ok (.iconst 0, 1) := by decide +kernel
theorem dX3_count_2 : decode cX3_count 2 = .ok (.putfield 57, 3) := by decide +kernel
theorem dX3_count_5 : decode cX3_count 5 = .ok (.iload_n 1, 1) := by decide +kernel
theorem dX3_count_6 : decode cX3_count 6 = .ok (.ifCond .ne 38, 3) := by decide +kernel
theorem dX3_count_9 : decode cX3_count 9 = .ok (.iconst 0, 1) := by decide +kernel
theorem dX3_count_10 : decode cX3_count 10 = .ok (.istore_n 2, 1) := by decide +kernel
theorem dX3_count_11 : decode cX3_count 11 = .ok (.iconst 0, 1) := by decide +kernel
theorem dX3_count_12 : decode cX3_count 12 = .ok (.istore_n 3, 1) := by decide +kernel
theorem dX3_count_13 : decode cX3_count 13 = .ok (.iload_n 3, 1) := by decide +kernel
theorem dX3_count_14 : decode cX3_count 14 = .ok (.bipush 8, 2) := by decide +kernel
theorem dX3_count_16 : decode cX3_count 16 = .ok (.if_icmp .ge 26, 3) := by decide +kernel
theorem dX3_count_19 : decode cX3_count 19 = .ok (.iload_n 2, 1) := by decide +kernel
theorem dX3_count_20 : decode cX3_count 20 = .ok (.aload_n 0, 1) := by decide +kernel
theorem dX3_count_21 : decode cX3_count 21 = .ok (.getfield 7, 3) := by decide +kernel
theorem dX3_count_24 : decode cX3_count 24 = .ok (.iload_n 3, 1) := by decide +kernel
theorem dX3_count_25 : decode cX3_count 25 = .ok (.iaload, 1) := by decide +kernel
theorem dX3_count_26 : decode cX3_count 26 = .ok (.ifCond .le 7, 3) := by decide +kernel
theorem dX3_count_29 : decode cX3_count 29 = .ok (.iconst 1, 1) := by decide +kernel
theorem dX3_count_30 : decode cX3_count 30 = .ok (.goto 4, 3) := by decide +kernel
theorem dX3_count_33 : decode cX3_count 33 = .ok (.iconst 0, 1) := by decide +kernel
theorem dX3_count_34 : decode cX3_count 34 = .ok (.iadd, 1) := by decide +kernel
theorem dX3_count_35 : decode cX3_count 35 = .ok (.istore_n 2, 1) := by decide +kernel
theorem dX3_count_36 : decode cX3_count 36 = .ok (.iinc 3 1, 3) := by decide +kernel
theorem dX3_count_39 : decode cX3_count 39 = .ok (.goto (-26), 3) := by decide +kernel
theorem dX3_count_42 : decode cX3_count 42 = .ok (.iload_n 2, 1) := by decide +kernel
theorem dX3_count_43 : decode cX3_count 43 = .ok (.ireturn, 1) := by decide +kernel
theorem dX3_count_44 : decode cX3_count 44 = .ok (.iload_n 1, 1) := by decide +kernel
theorem dX3_count_45 : decode cX3_count 45 = .ok (.iconst 1, 1) := by decide +kernel
theorem dX3_count_46 : decode cX3_count 46 = .ok (.if_icmp .ne 10, 3) := by decide +kernel
theorem dX3_count_49 : decode cX3_count 49 = .ok (.aload_n 0, 1) := by decide +kernel
theorem dX3_count_50 : decode cX3_count 50 = .ok (.getfield 54, 3) := by decide +kernel
theorem dX3_count_53 : decode cX3_count 53 = .ok (.goto 33, 3) := by decide +kernel
theorem dX3_count_56 : decode cX3_count 56 = .ok (.iload_n 1, 1) := by decide +kernel
theorem dX3_count_57 : decode cX3_count 57 = .ok (.iconst 2, 1) := by decide +kernel
theorem dX3_count_58 : decode cX3_count 58 = .ok (.iconst 5, 1) := by decide +kernel
theorem dX3_count_59 : decode cX3_count 59 = .ok (.invokestatic 60, 3) := by decide +kernel
theorem dX3_count_62 : decode cX3_count 62 = .ok (.ifCond .ne 14, 3) := by decide +kernel
theorem dX3_count_65 : decode cX3_count 65 = .ok (.iload_n 1, 1) := by decide +kernel
theorem dX3_count_66 : decode cX3_count 66 = .ok (.bipush 11, 2) := by decide +kernel
theorem dX3_count_68 : decode cX3_count 68 = .ok (.bipush 16, 2) := by decide +kernel
theorem dX3_count_70 : decode cX3_count 70 = .ok (.invokestatic 60, 3) := by decide +kernel
theorem dX3_count_73 : decode cX3_count 73 = .ok (.ifCond .eq 12, 3) := by decide +kernel
theorem dX3_count_76 : decode cX3_count 76 = .ok (.aload_n 0, 1) := by decide +kernel
theorem dX3_count_77 : decode cX3_count 77 = .ok (.getfield 51, 3) := by decide +kernel
theorem dX3_count_80 : decode cX3_count 80 = .ok (.iload_n 1, 1) := by decide +kernel
theorem dX3_count_81 : decode cX3_count 81 = .ok (.iaload, 1) := by decide +kernel
theorem dX3_count_82 : decode cX3_count 82 = .ok (.goto 4, 3) := by decide +kernel
theorem dX3_count_85 : decode cX3_count 85 = .ok (.iconst (-1), 1) := by decide +kernel
theorem dX3_count_86 : decode cX3_count 86 = .ok (.ireturn, 1) := by decide +kernel
theorem dJx00060_init_a7421_0 : decode cJx00060_init_a7421 0 = .ok (.aload_n 0, 1) := by decide +kernel
theorem dJx00060_init_a7421_1 : decode cJx00060_init_a7421 1 = .ok (.aload_n 1, 1) := by decide +kernel
theorem dJx00060_init_a7421_2 : decode cJx00060_init_a7421 2 = .ok (.invokespecial 7, 3) := by decide +kernel
theorem dJx00060_init_a7421_5 : decode cJx00060_init_a7421 5 = .ok (.return_, 1) := by decide +kernel
theorem dJ9_floorMod_7cf53_0 : decode cJ9_floorMod_7cf53 0 = .ok (.iload_n 0, 1) := by decide +kernel
theorem dJ9_floorMod_7cf53_1 : decode cJ9_floorMod_7cf53 1 = .ok (.iload_n 1, 1) := by decide +kernel
theorem dJ9_floorMod_7cf53_2 : decode cJ9_floorMod_7cf53 2 = .ok (.irem, 1) := by decide +kernel
theorem dJ9_floorMod_7cf53_3 : decode cJ9_floorMod_7cf53 3 = .ok (.istore_n 2, 1) := by decide +kernel
theorem dJ9_floorMod_7cf53_4 : decode cJ9_floorMod_7cf53 4 = .ok (.iload_n 0, 1) := by decide +kernel
theorem dJ9_floorMod_7cf53_5 : decode cJ9_floorMod_7cf53 5 = .ok (.iload_n 1, 1) := by decide +kernel
theorem dJ9_floorMod_7cf53_6 : decode cJ9_floorMod_7cf53 6 = .ok (.ixor, 1) := by decide +kernel
theorem dJ9_floorMod_7cf53_7 : decode cJ9_floorMod_7cf53 7 = .ok (.ifCond .ge 11, 3) := by decide +kernel
theorem dJ9_floorMod_7cf53_10 : decode cJ9_floorMod_7cf53 10 = .ok (.iload_n 2, 1) := by decide +kernel
theorem dJ9_floorMod_7cf53_11 : decode cJ9_floorMod_7cf53 11 = .ok (.ifCond .eq 7, 3) := by decide +kernel
theorem dJ9_floorMod_7cf53_14 : decode cJ9_floorMod_7cf53 14 = .ok (.iload_n 2, 1) := by decide +kernel
theorem dJ9_floorMod_7cf53_15 : decode cJ9_floorMod_7cf53 15 = .ok (.iload_n 1, 1) := by decide +kernel
theorem dJ9_floorMod_7cf53_16 : decode cJ9_floorMod_7cf53 16 = .ok (.iadd, 1) := by decide +kernel
theorem dJ9_floorMod_7cf53_17 : decode cJ9_floorMod_7cf53 17 = .ok (.ireturn, 1) := by decide +kernel
theorem dJ9_floorMod_7cf53_18 : decode cJ9_floorMod_7cf53 18 = .ok (.iload_n 2, 1) := by decide +kernel
theorem dJ9_floorMod_7cf53_19 : decode cJ9_floorMod_7cf53 19 = .ok (.ireturn, 1) := by decide +kernel
