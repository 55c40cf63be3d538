theorem dX0_init_0 : decode cX0_init 0 = .ok (.aload_n 0, 1) := by decide +kernel
theorem dX0_init_1 : decode cX0_init 1 = .ok (.invokespecial 3, 3) := by decide +kernel
theorem dX0_init_4 : decode cX0_init 4 = .ok (.return_, 1) := by decide +kernel
theorem dX0_setUp_0 : decode cX0_setUp 0 = .ok (.aload_n 0, 1) := by decide +kernel
theorem dX0_setUp_1 : decode cX0_setUp 1 = .ok (.iconst 1, 1) := by decide +kernel
theorem dX0_setUp_2 : decode cX0_setUp 2 = .ok (.putfield 9, 3) := by decide +kernel
theorem dX0_setUp_5 : decode cX0_setUp 5 = .ok (.aload_n 0, 1) := by decide +kernel
theorem dX0_setUp_6 : decode cX0_setUp 6 = .ok (.iload_n 1, 1) := by decide +kernel
theorem dX0_setUp_7 : decode cX0_setUp 7 = .ok (.putfield 15, 3) := by decide +kernel
theorem dX0_setUp_10 : decode cX0_setUp 10 = .ok (.aload_n 0, 1) := by decide +kernel
theorem dX0_setUp_11 : decode cX0_setUp 11 = .ok (.iconst 0, 1) := by decide +kernel
theorem dX0_setUp_12 : decode cX0_setUp 12 = .ok (.putfield 19, 3) := by decide +kernel
theorem dX0_setUp_15 : decode cX0_setUp 15 = .ok (.aload_n 0, 1) := by decide +kernel
theorem dX0_setUp_16 : decode cX0_setUp 16 = .ok (.iload_n 2, 1) := by decide +kernel
theorem dX0_setUp_17 : decode cX0_setUp 17 = .ok (.putfield 22, 3) := by decide +kernel
theorem dX0_setUp_20 : decode cX0_setUp 20 = .ok (.aload_n 0, 1) := by decide +kernel
theorem dX0_setUp_21 : decode cX0_setUp 21 = .ok (.iconst 0, 1) := by decide +kernel
theorem dX0_setUp_22 : decode cX0_setUp 22 = .ok (.putfield 25, 3) := by decide +kernel
theorem dX0_setUp_25 : decode cX0_setUp 25 = .ok (.aload_n 0, 1) := by decide +kernel
theorem dX0_setUp_26 : decode cX0_setUp 26 = .ok (.iconst 0, 1) := by decide +kernel
theorem dX0_setUp_27 : decode cX0_setUp 27 = .ok (.putfield 28, 3) := by decide +kernel
theorem dX0_setUp_30 : decode cX0_setUp 30 = .ok (.aload_n 0, 1) := by decide +kernel
theorem dX0_setUp_31 : decode cX0_setUp 31 = .ok (.iconst 0, 1) := by decide +kernel
theorem dX0_setUp_32 : decode cX0_setUp 32 = .ok (.putfield 31, 3) := by decide +kernel
theorem dX0_setUp_35 : decode cX0_setUp 35 = .ok (.aload_n 0, 1) := by decide +kernel
theorem dX0_setUp_36 : decode cX0_setUp 36 = .ok (.iconst 0, 1) := by decide +kernel
theorem dX0_setUp_37 : decode cX0_setUp 37 = .ok (.putfield 34, 3) := by decide +kernel
theorem dX0_setUp_40 : decode cX0_setUp 40 = .ok (.return_, 1) := by decide +kernel
theorem dX0_receive_0 : decode cX0_receive 0 = .ok (.aload_n 0, 1) := by decide +kernel
theorem dX0_receive_1 : decode cX0_receive 1 = .ok (.dup, 1) := by decide +kernel
theorem dX0_receive_2 : decode cX0_receive 2 = .ok (.getfield 19, 3) := by decide +kernel
theorem dX0_receive_5 : decode cX0_receive 5 = .ok (.iload_n 1, 1) := by decide +kernel
theorem dX0_receive_6 : decode cX0_receive 6 = .ok (.iadd, 1) := by decide +kernel
theorem dX0_receive_7 : decode cX0_receive 7 = .ok (.putfield 19, 3) := by decide +kernel
theorem dX0_receive_10 : decode cX0_receive 10 = .ok (.aload_n 0, 1) := by decide +kernel
theorem dX0_receive_11 : decode cX0_receive 11 = .ok (.getfield 19, 3) := by decide +kernel
theorem dX0_receive_14 : decode cX0_receive 14 = .ok (.bipush 10, 2) := by decide +kernel
theorem dX0_receive_16 : decode cX0_receive 16 = .ok (.aload_n 0, 1) := by decide +kernel
theorem dX0_receive_17 : decode cX0_receive 17 = .ok (.getfield 15, 3) := by decide +kernel
theorem dX0_receive_20 : decode cX0_receive 20 = .ok (.imul, 1) := by decide +kernel
theorem dX0_receive_21 : decode cX0_receive 21 = .ok (.if_icmp .gt 5, 3) := by decide +kernel
theorem dX0_receive_24 : decode cX0_receive 24 = .ok (.iconst 0, 1) := by decide +kernel
theorem dX0_receive_25 : decode cX0_receive 25 = .ok (.ireturn, 1) := by decide +kernel
theorem dX0_receive_26 : decode cX0_receive 26 = .ok (.aload_n 0, 1) := by decide +kernel
theorem dX0_receive_27 : decode cX0_receive 27 = .ok (.iconst 0, 1) := by decide +kernel
theorem dX0_receive_28 : decode cX0_receive 28 = .ok (.putfield 19, 3) := by decide +kernel
theorem dX0_receive_31 : decode cX0_receive 31 = .ok (.aload_n 0, 1) := by decide +kernel
theorem dX0_receive_32 : decode cX0_receive 32 = .ok (.dup, 1) := by decide +kernel
theorem dX0_receive_33 : decode cX0_receive 33 = .ok (.getfield 28, 3) := by decide +kernel
theorem dX0_receive_36 : decode cX0_receive 36 = .ok (.iconst 1, 1) := by decide +kernel
theorem dX0_receive_37 : decode cX0_receive 37 = .ok (.iadd, 1) := by decide +kernel
theorem dX0_receive_38 : decode cX0_receive 38 = .ok (.putfield 28, 3) := by decide +kernel
theorem dX0_receive_41 : decode cX0_receive 41 = .ok (.iconst 3, 1) := by decide +kernel
theorem dX0_receive_42 : decode cX0_receive 42 = .ok (.ireturn, 1) := by decide +kernel
theorem dX0_tell_0 : decode cX0_tell 0 = .ok (.iload_n 1, 1) := by decide +kernel
theorem dX0_tell_1 : decode cX0_tell 1 = .ok (.tableswitch 86 0 6 #[43, 48, 53, 66, 71, 76, 81], 43) := by decide +kernel
theorem dX0_tell_44 : decode cX0_tell 44 = .ok (.aload_n 0, 1) := by decide +kernel
theorem dX0_tell_45 : decode cX0_tell 45 = .ok (.getfield 15, 3) := by decide +kernel
theorem dX0_tell_48 : decode cX0_tell 48 = .ok (.ireturn, 1) := by decide +kernel
theorem dX0_tell_49 : decode cX0_tell 49 = .ok (.aload_n 0, 1) := by decide +kernel
theorem dX0_tell_50 : decode cX0_tell 50 = .ok (.getfield 19, 3) := by decide +kernel
theorem dX0_tell_53 : decode cX0_tell 53 = .ok (.ireturn, 1) := by decide +kernel
theorem dX0_tell_54 : decode cX0_tell 54 = .ok (.aload_n 0, 1) := by decide +kernel
theorem dX0_tell_55 : decode cX0_tell 55 = .ok (.getfield 22, 3) := by decide +kernel
theorem dX0_tell_58 : decode cX0_tell 58 = .ok (.ifCond .eq 7, 3) := by decide +kernel
theorem dX0_tell_61 : decode cX0_tell 61 = .ok (.iconst 1, 1) := by decide +kernel
theorem dX0_tell_62 : decode cX0_tell 62 = .ok (.goto 4, 3) := by decide +kernel
theorem dX0_tell_65 : decode cX0_tell 65 = .ok (.iconst 0, 1) := by decide +kernel
theorem dX0_tell_66 : decode cX0_tell 66 = .ok (.ireturn, 1) := by decide +kernel
theorem dX0_tell_67 : decode cX0_tell 67 = .ok (.aload_n 0, 1) := by decide +kernel
theorem dX0_tell_68 : decode cX0_tell 68 = .ok (.getfield 25, 3) := by decide +kernel
theorem dX0_tell_71 : decode cX0_tell 71 = .ok (.ireturn, 1) := by decide +kernel
theorem dX0_tell_72 : decode cX0_tell 72 = .ok (.aload_n 0, 1) := by decide +kernel
theorem dX0_tell_73 : decode cX0_tell 73 = .ok (.getfield 28, 3) := by decide +kernel
theorem dX0_tell_76 : decode cX0_tell 76 = .ok (.ireturn, 1) := by decide +kernel
theorem dX0_tell_77 : decode cX0_tell 77 = .ok (.aload_n 0, 1) := by decide +kernel
theorem dX0_tell_78 : decode cX0_tell 78 = .ok (.getfield 31, 3) := by decide +kernel
theorem dX0_tell_81 : decode cX0_tell 81 = .ok (.ireturn, 1) := by decide +kernel
theorem dX0_tell_82 : decode cX0_tell 82 = .ok (.aload_n 0, 1) := by decide +kernel
theorem dX0_tell_83 : decode cX0_tell 83 = .ok (.getfield 34, 3) := by decide +kernel
theorem dX0_tell_86 : decode cX0_tell 86 = .ok (.ireturn, 1) := by decide +kernel
theorem dX0_tell_87 : decode cX0_tell 87 = .ok (.iconst (-1), 1) := by decide +kernel
theorem dX0_tell_88 : decode cX0_tell 88 = .ok (.ireturn, 1) := by decide +kernel
theorem dX1_init_0 : decode cX1_init 0 = .ok (.aload_n 0, 1) := by decide +kernel
theorem dX1_init_1 : decode cX1_init 1 = .ok (.invokespecial 3, 3) := by decide +kernel
theorem dX1_init_4 : decode cX1_init 4 = .ok (.aload_n 0, 1) := by decide +kernel
theorem dX1_init_5 : decode cX1_init 5 = .ok (.bipush 6, 2) := by decide +kernel
theorem dX1_init_7 : decode cX1_init 7 = .ok (.anewarray 9, 3) := by decide +kernel
theorem dX1_init_10 : decode cX1_init 10 = .ok (.putfield 11, 3) := by decide +kernel
theorem dX1_init_13 : decode cX1_init 13 = .ok (.aload_n 0, 1) := by decide +kernel
theorem dX1_init_14 : decode cX1_init 14 = .ok (.bipush 6, 2) := by decide +kernel
theorem dX1_init_16 : decode cX1_init 16 = .ok (.newarray .int, 2) := by decide +kernel
theorem dX1_init_18 : decode cX1_init 18 = .ok (.putfield 17, 3) := by decide +kernel
theorem dX1_init_21 : decode cX1_init 21 = .ok (.aload_n 0, 1) := by decide +kernel
theorem dX1_init_22 : decode cX1_init 22 = .ok (.bipush 6, 2) := by decide +kernel
theorem dX1_init_24 : decode cX1_init 24 = .ok (.newarray .int, 2) := by decide +kernel
theorem dX1_init_26 : decode cX1_init 26 = .ok (.putfield 21, 3) := by decide +kernel
theorem dX1_init_29 : decode cX1_init 29 = .ok (.aload_n 0, 1) := by decide +kernel
theorem dX1_init_30 : decode cX1_init 30 = .ok (.iconst 0, 1) := by decide +kernel
theorem dX1_init_31 : decode cX1_init 31 = .ok (.putfield 24, 3) := by decide +kernel
theorem dX1_init_34 : decode cX1_init 34 = .ok (.return_, 1) := by decide +kernel
theorem dX1_isFull_0 : decode cX1_isFull 0 = .ok (.aload_n 0, 1) := by decide +kernel
theorem dX1_isFull_1 : decode cX1_isFull 1 = .ok (.getfield 24, 3) := by decide +kernel
theorem dX1_isFull_4 : decode cX1_isFull 4 = .ok (.bipush 6, 2) := by decide +kernel
theorem dX1_isFull_6 : decode cX1_isFull 6 = .ok (.if_icmp .lt 7, 3) := by decide +kernel
theorem dX1_isFull_9 : decode cX1_isFull 9 = .ok (.iconst 1, 1) := by decide +kernel
theorem dX1_isFull_10 : decode cX1_isFull 10 = .ok (.goto 4, 3) := by decide +kernel
theorem dX1_isFull_13 : decode cX1_isFull 13 = .ok (.iconst 0, 1) := by decide +kernel
theorem dX1_isFull_14 : decode cX1_isFull 14 = .ok (.ireturn, 1) := by decide +kernel
theorem dX1_here_0 : decode cX1_here 0 = .ok (.aload_n 0, 1) := by decide +kernel
theorem dX1_here_1 : decode cX1_here 1 = .ok (.getfield 24, 3) := by decide +kernel
theorem dX1_here_4 : decode cX1_here 4 = .ok (.iconst 1, 1) := by decide +kernel
theorem dX1_here_5 : decode cX1_here 5 = .ok (.if_icmp .lt 17, 3) := by decide +kernel
theorem dX1_here_8 : decode cX1_here 8 = .ok (.aload_n 0, 1) := by decide +kernel
theorem dX1_here_9 : decode cX1_here 9 = .ok (.getfield 11, 3) := by decide +kernel
theorem dX1_here_12 : decode cX1_here 12 = .ok (.aload_n 0, 1) := by decide +kernel
theorem dX1_here_13 : decode cX1_here 13 = .ok (.getfield 24, 3) := by decide +kernel
theorem dX1_here_16 : decode cX1_here 16 = .ok (.iconst 1, 1) := by decide +kernel
theorem dX1_here_17 : decode cX1_here 17 = .ok (.isub, 1) := by decide +kernel
theorem dX1_here_18 : decode cX1_here 18 = .ok (.aaload, 1) := by decide +kernel
theorem dX1_here_19 : decode cX1_here 19 = .ok (.goto 4, 3) := by decide +kernel
theorem dX1_here_22 : decode cX1_here 22 = .ok (.aconst_null, 1) := by decide +kernel
theorem dX1_here_23 : decode cX1_here 23 = .ok (.areturn, 1) := by decide +kernel
theorem dX1_around_0 : decode cX1_around 0 = .ok (.aload_n 0, 1) := by decide +kernel
theorem dX1_around_1 : decode cX1_around 1 = .ok (.getfield 24, 3) := by decide +kernel
theorem dX1_around_4 : decode cX1_around 4 = .ok (.iconst 2, 1) := by decide +kernel
theorem dX1_around_5 : decode cX1_around 5 = .ok (.if_icmp .lt 17, 3) := by decide +kernel
theorem dX1_around_8 : decode cX1_around 8 = .ok (.aload_n 0, 1) := by decide +kernel
theorem dX1_around_9 : decode cX1_around 9 = .ok (.getfield 11, 3) := by decide +kernel
theorem dX1_around_12 : decode cX1_around 12 = .ok (.aload_n 0, 1) := by decide +kernel
theorem dX1_around_13 : decode cX1_around 13 = .ok (.getfield 24, 3) := by decide +kernel
theorem dX1_around_16 : decode cX1_around 16 = .ok (.iconst 2, 1) := by decide +kernel
theorem dX1_around_17 : decode cX1_around 17 = .ok (.isub, 1) := by decide +kernel
theorem dX1_around_18 : decode cX1_around 18 = .ok (.aaload, 1) := by decide +kernel
theorem dX1_around_19 : decode cX1_around 19 = .ok (.goto 4, 3) := by decide +kernel
theorem dX1_around_22 : decode cX1_around 22 = .ok (.aconst_null, 1) := by decide +kernel
theorem dX1_around_23 : decode cX1_around 23 = .ok (.areturn, 1) := by decide +kernel
theorem dX1_enter_0 : decode cX1_enter 0 = .ok (.aload_n 0, 1) := by decide +kernel
theorem dX1_enter_1 : decode cX1_enter 1 = .ok (.getfield 11, 3) := by decide +kernel
theorem dX1_enter_4 : decode cX1_enter 4 = .ok (.aload_n 0, 1) := by decide +kernel
theorem dX1_enter_5 : decode cX1_enter 5 = .ok (.getfield 24, 3) := by decide +kernel
theorem dX1_enter_8 : decode cX1_enter 8 = .ok (.aload_n 1, 1) := by decide +kernel
theorem dX1_enter_9 : decode cX1_enter 9 = .ok (.aastore, 1) := by decide +kernel
theorem dX1_enter_10 : decode cX1_enter 10 = .ok (.aload_n 0, 1) := by decide +kernel
theorem dX1_enter_11 : decode cX1_enter 11 = .ok (.getfield 17, 3) := by decide +kernel
theorem dX1_enter_14 : decode cX1_enter 14 = .ok (.aload_n 0, 1) := by decide +kernel
theorem dX1_enter_15 : decode cX1_enter 15 = .ok (.getfield 24, 3) := by decide +kernel
theorem dX1_enter_18 : decode cX1_enter 18 = .ok (.iload_n 2, 1) := by decide +kernel
theorem dX1_enter_19 : decode cX1_enter 19 = .ok (.iastore, 1) := by decide +kernel
theorem dX1_enter_20 : decode cX1_enter 20 = .ok (.aload_n 0, 1) := by decide +kernel
theorem dX1_enter_21 : decode cX1_enter 21 = .ok (.getfield 21, 3) := by decide +kernel
theorem dX1_enter_24 : decode cX1_enter 24 = .ok (.aload_n 0, 1) := by decide +kernel
theorem dX1_enter_25 : decode cX1_enter 25 = .ok (.getfield 24, 3) := by decide +kernel
theorem dX1_enter_28 : decode cX1_enter 28 = .ok (.iconst 0, 1) := by decide +kernel
theorem dX1_enter_29 : decode cX1_enter 29 = .ok (.iastore, 1) := by decide +kernel
theorem dX1_enter_30 : decode cX1_enter 30 = .ok (.aload_n 0, 1) := by decide +kernel
theorem dX1_enter_31 : decode cX1_enter 31 = .ok (.dup, 1) := by decide +kernel
theorem dX1_enter_32 : decode cX1_enter 32 = .ok (.getfield 24, 3) := by decide +kernel
theorem dX1_enter_35 : decode cX1_enter 35 = .ok (.iconst 1, 1) := by decide +kernel
theorem dX1_enter_36 : decode cX1_enter 36 = .ok (.iadd, 1) := by decide +kernel
theorem dX1_enter_37 : decode cX1_enter 37 = .ok (.putfield 24, 3) := by decide +kernel
theorem dX1_enter_40 : decode cX1_enter 40 = .ok (.aload_n 1, 1) := by decide +kernel
theorem dX1_enter_41 : decode cX1_enter 41 = .ok (.dup, 1) := by decide +kernel
theorem dX1_enter_42 : decode cX1_enter 42 = .ok (.getfield 28, 3) := by decide +kernel
theorem dX1_enter_45 : decode cX1_enter 45 = .ok (.iconst 1, 1) := by decide +kernel
theorem dX1_enter_46 : decode cX1_enter 46 = .ok (.iadd, 1) := by decide +kernel
theorem dX1_enter_47 : decode cX1_enter 47 = .ok (.putfield 28, 3) := by decide +kernel
theorem dX1_enter_50 : decode cX1_enter 50 = .ok (.aload_n 1, 1) := by decide +kernel
theorem dX1_enter_51 : decode cX1_enter 51 = .ok (.dup, 1) := by decide +kernel
theorem dX1_enter_52 : decode cX1_enter 52 = .ok (.getfield 31, 3) := by decide +kernel
theorem dX1_enter_55 : decode cX1_enter 55 = .ok (.iconst 1, 1) := by decide +kernel
theorem dX1_enter_56 : decode cX1_enter 56 = .ok (.iadd, 1) := by decide +kernel
theorem dX1_enter_57 : decode cX1_enter 57 = .ok (.putfield 31, 3) := by decide +kernel
theorem dX1_enter_60 : decode cX1_enter 60 = .ok (.return_, 1) := by decide +kernel
set_option maxRecDepth 20000 in
theorem ggX1_leaveHere_X1_leaveDownTo : GoodIn wsX1_leaveHere wsX1_leaveDownTo := goodIn_r _ [6, 1, 7, 8, 9, 10, 11, 12, 13, 14, 15, 16, 17, 18, 19] (by decide +kernel) (by decide +kernel)
set_option maxRecDepth 20000 in
theorem gX1_leaveHere_X1_leaveDownTo : GoodIn wsX1_leaveHere (wsV RX1 34 RX1 yX1_leaveDownTo wsX1_leaveDownTo) := goodIn_app (goodIn_of _ (by decide +kernel)) ggX1_leaveHere_X1_leaveDownTo
theorem dX1_leaveHere_0 : decode cX1_leaveHere 0 = .ok (.aload_n 0, 1) := by decide +kernel
theorem dX1_leaveHere_1 : decode cX1_leaveHere 1 = .ok (.aload_n 0, 1) := by decide +kernel
theorem dX1_leaveHere_2 : decode cX1_leaveHere 2 = .ok (.getfield 24, 3) := by decide +kernel
theorem dX1_leaveHere_5 : decode cX1_leaveHere 5 = .ok (.iconst 1, 1) := by decide +kernel
theorem dX1_leaveHere_6 : decode cX1_leaveHere 6 = .ok (.isub, 1) := by decide +kernel
theorem dX1_leaveHere_7 : decode cX1_leaveHere 7 = .ok (.invokevirtual 34, 3) := by decide +kernel
theorem dX1_leaveHere_10 : decode cX1_leaveHere 10 = .ok (.return_, 1) := by decide +kernel
theorem dX1_leaveDownTo_0 : decode cX1_leaveDownTo 0 = .ok (.aload_n 0, 1) := by decide +kernel
theorem dX1_leaveDownTo_1 : decode cX1_leaveDownTo 1 = .ok (.getfield 24, 3) := by decide +kernel
theorem dX1_leaveDownTo_4 : decode cX1_leaveDownTo 4 = .ok (.iload_n 1, 1) := by decide +kernel
theorem dX1_leaveDownTo_5 : decode cX1_leaveDownTo 5 = .ok (.if_icmp .le 43, 3) := by decide +kernel
theorem dX1_leaveDownTo_8 : decode cX1_leaveDownTo 8 = .ok (.aload_n 0, 1) := by decide +kernel
theorem dX1_leaveDownTo_9 : decode cX1_leaveDownTo 9 = .ok (.getfield 24, 3) := by decide +kernel
theorem dX1_leaveDownTo_12 : decode cX1_leaveDownTo 12 = .ok (.ifCond .le 36, 3) := by decide +kernel
theorem dX1_leaveDownTo_15 : decode cX1_leaveDownTo 15 = .ok (.aload_n 0, 1) := by decide +kernel
theorem dX1_leaveDownTo_16 : decode cX1_leaveDownTo 16 = .ok (.getfield 11, 3) := by decide +kernel
theorem dX1_leaveDownTo_19 : decode cX1_leaveDownTo 19 = .ok (.aload_n 0, 1) := by decide +kernel
theorem dX1_leaveDownTo_20 : decode cX1_leaveDownTo 20 = .ok (.getfield 24, 3) := by decide +kernel
theorem dX1_leaveDownTo_23 : decode cX1_leaveDownTo 23 = .ok (.iconst 1, 1) := by decide +kernel
theorem dX1_leaveDownTo_24 : decode cX1_leaveDownTo 24 = .ok (.isub, 1) := by decide +kernel
theorem dX1_leaveDownTo_25 : decode cX1_leaveDownTo 25 = .ok (.aaload, 1) := by decide +kernel
theorem dX1_leaveDownTo_26 : decode cX1_leaveDownTo 26 = .ok (.dup, 1) := by decide +kernel
theorem dX1_leaveDownTo_27 : decode cX1_leaveDownTo 27 = .ok (.getfield 31, 3) := by decide +kernel
theorem dX1_leaveDownTo_30 : decode cX1_leaveDownTo 30 = .ok (.iconst 1, 1) := by decide +kernel
theorem dX1_leaveDownTo_31 : decode cX1_leaveDownTo 31 = .ok (.isub, 1) := by decide +kernel
theorem dX1_leaveDownTo_32 : decode cX1_leaveDownTo 32 = .ok (.putfield 31, 3) := by decide +kernel
theorem dX1_leaveDownTo_35 : decode cX1_leaveDownTo 35 = .ok (.aload_n 0, 1) := by decide +kernel
theorem dX1_leaveDownTo_36 : decode cX1_leaveDownTo 36 = .ok (.dup, 1) := by decide +kernel
theorem dX1_leaveDownTo_37 : decode cX1_leaveDownTo 37 = .ok (.getfield 24, 3) := by decide +kernel
theorem dX1_leaveDownTo_40 : decode cX1_leaveDownTo 40 = .ok (.iconst 1, 1) := by decide +kernel
theorem dX1_leaveDownTo_41 : decode cX1_leaveDownTo 41 = .ok (.isub, 1) := by decide +kernel
theorem dX1_leaveDownTo_42 : decode cX1_leaveDownTo 42 = .ok (.putfield 24, 3) := by decide +kernel
theorem dX1_leaveDownTo_45 : decode cX1_leaveDownTo 45 = .ok (.goto (-45), 3) := by decide +kernel
theorem dX1_leaveDownTo_48 : decode cX1_leaveDownTo 48 = .ok (.return_, 1) := by decide +kernel
set_option maxRecDepth 20000 in
theorem ggX1_leaveByRefuge_X1_leaveDownTo : GoodIn wsX1_leaveByRefuge wsX1_leaveDownTo := goodIn_r _ [7, 1, 2, 8, 9, 10, 11, 12, 13, 14, 15, 16, 17, 18, 19] (by decide +kernel) (by decide +kernel)
set_option maxRecDepth 20000 in
theorem gX1_leaveByRefuge_X1_leaveDownTo : GoodIn wsX1_leaveByRefuge (wsV RX1 34 RX1 yX1_leaveDownTo wsX1_leaveDownTo) := goodIn_app (goodIn_of _ (by decide +kernel)) ggX1_leaveByRefuge_X1_leaveDownTo
theorem dX1_leaveByRefuge_0 : decode cX1_leaveByRefuge 0 = .ok (.aload_n 0, 1) := by decide +kernel
theorem dX1_leaveByRefuge_1 : decode cX1_leaveByRefuge 1 = .ok (.getfield 24, 3) := by decide +kernel
theorem dX1_leaveByRefuge_4 : decode cX1_leaveByRefuge 4 = .ok (.iconst 1, 1) := by decide +kernel
theorem dX1_leaveByRefuge_5 : decode cX1_leaveByRefuge 5 = .ok (.isub, 1) := by decide +kernel
theorem dX1_leaveByRefuge_6 : decode cX1_leaveByRefuge 6 = .ok (.istore_n 1, 1) := by decide +kernel
theorem dX1_leaveByRefuge_7 : decode cX1_leaveByRefuge 7 = .ok (.iload_n 1, 1) := by decide +kernel
theorem dX1_leaveByRefuge_8 : decode cX1_leaveByRefuge 8 = .ok (.ifCond .lt 43, 3) := by decide +kernel
theorem dX1_leaveByRefuge_11 : decode cX1_leaveByRefuge 11 = .ok (.aload_n 0, 1) := by decide +kernel
theorem dX1_leaveByRefuge_12 : decode cX1_leaveByRefuge 12 = .ok (.getfield 11, 3) := by decide +kernel
theorem dX1_leaveByRefuge_15 : decode cX1_leaveByRefuge 15 = .ok (.iload_n 1, 1) := by decide +kernel
theorem dX1_leaveByRefuge_16 : decode cX1_leaveByRefuge 16 = .ok (.aaload, 1) := by decide +kernel
theorem dX1_leaveByRefuge_17 : decode cX1_leaveByRefuge 17 = .ok (.getfield 38, 3) := by decide +kernel
theorem dX1_leaveByRefuge_20 : decode cX1_leaveByRefuge 20 = .ok (.ifCond .eq 25, 3) := by decide +kernel
theorem dX1_leaveByRefuge_23 : decode cX1_leaveByRefuge 23 = .ok (.aload_n 0, 1) := by decide +kernel
theorem dX1_leaveByRefuge_24 : decode cX1_leaveByRefuge 24 = .ok (.getfield 11, 3) := by decide +kernel
theorem dX1_leaveByRefuge_27 : decode cX1_leaveByRefuge 27 = .ok (.iload_n 1, 1) := by decide +kernel
theorem dX1_leaveByRefuge_28 : decode cX1_leaveByRefuge 28 = .ok (.aaload, 1) := by decide +kernel
theorem dX1_leaveByRefuge_29 : decode cX1_leaveByRefuge 29 = .ok (.dup, 1) := by decide +kernel
theorem dX1_leaveByRefuge_30 : decode cX1_leaveByRefuge 30 = .ok (.getfield 42, 3) := by decide +kernel
theorem dX1_leaveByRefuge_33 : decode cX1_leaveByRefuge 33 = .ok (.iconst 1, 1) := by decide +kernel
theorem dX1_leaveByRefuge_34 : decode cX1_leaveByRefuge 34 = .ok (.iadd, 1) := by decide +kernel
theorem dX1_leaveByRefuge_35 : decode cX1_leaveByRefuge 35 = .ok (.putfield 42, 3) := by decide +kernel
theorem dX1_leaveByRefuge_38 : decode cX1_leaveByRefuge 38 = .ok (.aload_n 0, 1) := by decide +kernel
theorem dX1_leaveByRefuge_39 : decode cX1_leaveByRefuge 39 = .ok (.iload_n 1, 1) := by decide +kernel
theorem dX1_leaveByRefuge_40 : decode cX1_leaveByRefuge 40 = .ok (.invokevirtual 34, 3) := by decide +kernel
theorem dX1_leaveByRefuge_43 : decode cX1_leaveByRefuge 43 = .ok (.iconst 1, 1) := by decide +kernel
theorem dX1_leaveByRefuge_44 : decode cX1_leaveByRefuge 44 = .ok (.ireturn, 1) := by decide +kernel
theorem dX1_leaveByRefuge_45 : decode cX1_leaveByRefuge 45 = .ok (.iinc 1 (-1), 3) := by decide +kernel
theorem dX1_leaveByRefuge_48 : decode cX1_leaveByRefuge 48 = .ok (.goto (-41), 3) := by decide +kernel
theorem dX1_leaveByRefuge_51 : decode cX1_leaveByRefuge 51 = .ok (.iconst 0, 1) := by decide +kernel
theorem dX1_leaveByRefuge_52 : decode cX1_leaveByRefuge 52 = .ok (.ireturn, 1) := by decide +kernel
theorem dX1_stepBehindAgain_0 : decode cX1_stepBehindAgain 0 = .ok (.aload_n 0, 1) := by decide +kernel
theorem dX1_stepBehindAgain_1 : decode cX1_stepBehindAgain 1 = .ok (.getfield 24, 3) := by decide +kernel
theorem dX1_stepBehindAgain_4 : decode cX1_stepBehindAgain 4 = .ok (.ifCond .eq 18, 3) := by decide +kernel
theorem dX1_stepBehindAgain_7 : decode cX1_stepBehindAgain 7 = .ok (.aload_n 0, 1) := by decide +kernel
theorem dX1_stepBehindAgain_8 : decode cX1_stepBehindAgain 8 = .ok (.getfield 21, 3) := by decide +kernel
theorem dX1_stepBehindAgain_11 : decode cX1_stepBehindAgain 11 = .ok (.aload_n 0, 1) := by decide +kernel
theorem dX1_stepBehindAgain_12 : decode cX1_stepBehindAgain 12 = .ok (.getfield 24, 3) := by decide +kernel
theorem dX1_stepBehindAgain_15 : decode cX1_stepBehindAgain 15 = .ok (.iconst 1, 1) := by decide +kernel
theorem dX1_stepBehindAgain_16 : decode cX1_stepBehindAgain 16 = .ok (.isub, 1) := by decide +kernel
theorem dX1_stepBehindAgain_17 : decode cX1_stepBehindAgain 17 = .ok (.iaload, 1) := by decide +kernel
theorem dX1_stepBehindAgain_18 : decode cX1_stepBehindAgain 18 = .ok (.iload_n 1, 1) := by decide +kernel
theorem dX1_stepBehindAgain_19 : decode cX1_stepBehindAgain 19 = .ok (.if_icmp .lt 5, 3) := by decide +kernel
theorem dX1_stepBehindAgain_22 : decode cX1_stepBehindAgain 22 = .ok (.iload_n 2, 1) := by decide +kernel
theorem dX1_stepBehindAgain_23 : decode cX1_stepBehindAgain 23 = .ok (.ireturn, 1) := by decide +kernel
theorem dX1_stepBehindAgain_24 : decode cX1_stepBehindAgain 24 = .ok (.aload_n 0, 1) := by decide +kernel
theorem dX1_stepBehindAgain_25 : decode cX1_stepBehindAgain 25 = .ok (.getfield 21, 3) := by decide +kernel
theorem dX1_stepBehindAgain_28 : decode cX1_stepBehindAgain 28 = .ok (.aload_n 0, 1) := by decide +kernel
theorem dX1_stepBehindAgain_29 : decode cX1_stepBehindAgain 29 = .ok (.getfield 24, 3) := by decide +kernel
theorem dX1_stepBehindAgain_32 : decode cX1_stepBehindAgain 32 = .ok (.iconst 1, 1) := by decide +kernel
theorem dX1_stepBehindAgain_33 : decode cX1_stepBehindAgain 33 = .ok (.isub, 1) := by decide +kernel
theorem dX1_stepBehindAgain_34 : decode cX1_stepBehindAgain 34 = .ok (.dup2, 1) := by decide +kernel
theorem dX1_stepBehindAgain_35 : decode cX1_stepBehindAgain 35 = .ok (.iaload, 1) := by decide +kernel
theorem dX1_stepBehindAgain_36 : decode cX1_stepBehindAgain 36 = .ok (.iconst 1, 1) := by decide +kernel
theorem dX1_stepBehindAgain_37 : decode cX1_stepBehindAgain 37 = .ok (.iadd, 1) := by decide +kernel
theorem dX1_stepBehindAgain_38 : decode cX1_stepBehindAgain 38 = .ok (.iastore, 1) := by decide +kernel
theorem dX1_stepBehindAgain_39 : decode cX1_stepBehindAgain 39 = .ok (.aload_n 0, 1) := by decide +kernel
theorem dX1_stepBehindAgain_40 : decode cX1_stepBehindAgain 40 = .ok (.getfield 17, 3) := by decide +kernel
theorem dX1_stepBehindAgain_43 : decode cX1_stepBehindAgain 43 = .ok (.aload_n 0, 1) := by decide +kernel
theorem dX1_stepBehindAgain_44 : decode cX1_stepBehindAgain 44 = .ok (.getfield 24, 3) := by decide +kernel
theorem dX1_stepBehindAgain_47 : decode cX1_stepBehindAgain 47 = .ok (.iconst 1, 1) := by decide +kernel
theorem dX1_stepBehindAgain_48 : decode cX1_stepBehindAgain 48 = .ok (.isub, 1) := by decide +kernel
theorem dX1_stepBehindAgain_49 : decode cX1_stepBehindAgain 49 = .ok (.iaload, 1) := by decide +kernel
theorem dX1_stepBehindAgain_50 : decode cX1_stepBehindAgain 50 = .ok (.iconst 1, 1) := by decide +kernel
theorem dX1_stepBehindAgain_51 : decode cX1_stepBehindAgain 51 = .ok (.iadd, 1) := by decide +kernel
theorem dX1_stepBehindAgain_52 : decode cX1_stepBehindAgain 52 = .ok (.ireturn, 1) := by decide +kernel
set_option maxRecDepth 20000 in
theorem ggX2_init_X1_init : GoodIn wsX2_init wsX1_init := goodIn_r _ [26, 27, 2, 3, 28, 29, 10, 30, 31, 32, 50, 51, 52, 53] (by decide +kernel) (by decide +kernel)
set_option maxRecDepth 20000 in
theorem gX2_init_X1_init_n17 : GoodIn wsX2_init (wsX1_init) := ggX2_init_X1_init
set_option maxRecDepth 20000 in
theorem ggX2_init_X0_init : GoodIn wsX2_init wsX0_init := goodIn_r _ [34, 35, 2, 3] (by decide +kernel) (by decide +kernel)
set_option maxRecDepth 20000 in
theorem gX2_init_X0_init_n60 : GoodIn wsX2_init (wsX0_init) := ggX2_init_X0_init
theorem dX2_init_0 : decode cX2_init 0 = .ok (.aload_n 0, 1) := by decide +kernel
theorem dX2_init_1 : decode cX2_init 1 = .ok (.invokespecial 1, 3) := by decide +kernel
theorem dX2_init_4 : decode cX2_init 4 = .ok (.aload_n 0, 1) := by decide +kernel
theorem dX2_init_5 : decode cX2_init 5 = .ok (.bipush 8, 2) := by decide +kernel
theorem dX2_init_7 : decode cX2_init 7 = .ok (.anewarray 9, 3) := by decide +kernel
theorem dX2_init_10 : decode cX2_init 10 = .ok (.putfield 11, 3) := by decide +kernel
theorem dX2_init_13 : decode cX2_init 13 = .ok (.aload_n 0, 1) := by decide +kernel
theorem dX2_init_14 : decode cX2_init 14 = .ok (.new 15, 3) := by decide +kernel
theorem dX2_init_17 : decode cX2_init 17 = .ok (.dup, 1) := by decide +kernel
theorem dX2_init_18 : decode cX2_init 18 = .ok (.invokespecial 17, 3) := by decide +kernel
theorem dX2_init_21 : decode cX2_init 21 = .ok (.putfield 18, 3) := by decide +kernel
theorem dX2_init_24 : decode cX2_init 24 = .ok (.aload_n 0, 1) := by decide +kernel
theorem dX2_init_25 : decode cX2_init 25 = .ok (.bipush 8, 2) := by decide +kernel
theorem dX2_init_27 : decode cX2_init 27 = .ok (.newarray .int, 2) := by decide +kernel
theorem dX2_init_29 : decode cX2_init 29 = .ok (.putfield 22, 3) := by decide +kernel
theorem dX2_init_32 : decode cX2_init 32 = .ok (.aload_n 0, 1) := by decide +kernel
theorem dX2_init_33 : decode cX2_init 33 = .ok (.bipush 30, 2) := by decide +kernel
theorem dX2_init_35 : decode cX2_init 35 = .ok (.newarray .int, 2) := by decide +kernel
theorem dX2_init_37 : decode cX2_init 37 = .ok (.putfield 26, 3) := by decide +kernel
theorem dX2_init_40 : decode cX2_init 40 = .ok (.aload_n 0, 1) := by decide +kernel
theorem dX2_init_41 : decode cX2_init 41 = .ok (.bipush 30, 2) := by decide +kernel
theorem dX2_init_43 : decode cX2_init 43 = .ok (.newarray .int, 2) := by decide +kernel
theorem dX2_init_45 : decode cX2_init 45 = .ok (.putfield 29, 3) := by decide +kernel
theorem dX2_init_48 : decode cX2_init 48 = .ok (.aload_n 0, 1) := by decide +kernel
theorem dX2_init_49 : decode cX2_init 49 = .ok (.iconst 0, 1) := by decide +kernel
theorem dX2_init_50 : decode cX2_init 50 = .ok (.putfield 32, 3) := by decide +kernel
theorem dX2_init_53 : decode cX2_init 53 = .ok (.aload_n 0, 1) := by decide +kernel
theorem dX2_init_54 : decode cX2_init 54 = .ok (.iconst 0, 1) := by decide +kernel
theorem dX2_init_55 : decode cX2_init 55 = .ok (.putfield 36, 3) := by decide +kernel
theorem dX2_init_58 : decode cX2_init 58 = .ok (.aload_n 0, 1) := by decide +kernel
theorem dX2_init_59 : decode cX2_init 59 = .ok (.iconst 0, 1) := by decide +kernel
theorem dX2_init_60 : decode cX2_init 60 = .ok (.putfield 39, 3) := by decide +kernel
theorem dX2_init_63 : decode cX2_init 63 = .ok (.aload_n 0, 1) := by decide +kernel
theorem dX2_init_64 : decode cX2_init 64 = .ok (.iconst (-1), 1) := by decide +kernel
theorem dX2_init_65 : decode cX2_init 65 = .ok (.putfield 42, 3) := by decide +kernel
theorem dX2_init_68 : decode cX2_init 68 = .ok (.aload_n 0, 1) := by decide +kernel
theorem dX2_init_69 : decode cX2_init 69 = .ok (.bipush 7, 2) := by decide +kernel
theorem dX2_init_71 : decode cX2_init 71 = .ok (.newarray .int, 2) := by decide +kernel
theorem dX2_init_73 : decode cX2_init 73 = .ok (.putfield 45, 3) := by decide +kernel
theorem dX2_init_76 : decode cX2_init 76 = .ok (.aload_n 0, 1) := by decide +kernel
theorem dX2_init_77 : decode cX2_init 77 = .ok (.iconst 0, 1) := by decide +kernel
theorem dX2_init_78 : decode cX2_init 78 = .ok (.putfield 48, 3) := by decide +kernel
theorem dX2_init_81 : decode cX2_init 81 = .ok (.aload_n 0, 1) := by decide +kernel
theorem dX2_init_82 : decode cX2_init 82 = .ok (.iconst 0, 1) := by decide +kernel
theorem dX2_init_83 : decode cX2_init 83 = .ok (.putfield 51, 3) := by decide +kernel
theorem dX2_init_86 : decode cX2_init 86 = .ok (.aload_n 0, 1) := by decide +kernel
theorem dX2_init_87 : decode cX2_init 87 = .ok (.iconst 0, 1) := by decide +kernel
theorem dX2_init_88 : decode cX2_init 88 = .ok (.putfield 54, 3) := by decide +kernel
theorem dX2_init_91 : decode cX2_init 91 = .ok (.aload_n 0, 1) := by decide +kernel
theorem dX2_init_92 : decode cX2_init 92 = .ok (.iconst 0, 1) := by decide +kernel
theorem dX2_init_93 : decode cX2_init 93 = .ok (.putfield 57, 3) := by decide +kernel
theorem dX2_init_96 : decode cX2_init 96 = .ok (.iconst 0, 1) := by decide +kernel
theorem dX2_init_97 : decode cX2_init 97 = .ok (.istore_n 1, 1) := by decide +kernel
theorem dX2_init_98 : decode cX2_init 98 = .ok (.iload_n 1, 1) := by decide +kernel
theorem dX2_init_99 : decode cX2_init 99 = .ok (.bipush 8, 2) := by decide +kernel
theorem dX2_init_101 : decode cX2_init 101 = .ok (.if_icmp .ge 22, 3) := by decide +kernel
theorem dX2_init_104 : decode cX2_init 104 = .ok (.aload_n 0, 1) := by decide +kernel
theorem dX2_init_105 : decode cX2_init 105 = .ok (.getfield 11, 3) := by decide +kernel
theorem dX2_init_108 : decode cX2_init 108 = .ok (.iload_n 1, 1) := by decide +kernel
theorem dX2_init_109 : decode cX2_init 109 = .ok (.new 9, 3) := by decide +kernel
theorem dX2_init_112 : decode cX2_init 112 = .ok (.dup, 1) := by decide +kernel
theorem dX2_init_113 : decode cX2_init 113 = .ok (.invokespecial 60, 3) := by decide +kernel
theorem dX2_init_116 : decode cX2_init 116 = .ok (.aastore, 1) := by decide +kernel
theorem dX2_init_117 : decode cX2_init 117 = .ok (.iinc 1 1, 3) := by decide +kernel
theorem dX2_init_120 : decode cX2_init 120 = .ok (.goto (-22), 3) := by decide +kernel
theorem dX2_init_123 : decode cX2_init 123 = .ok (.return_, 1) := by decide +kernel
set_option maxRecDepth 20000 in
theorem ggX2_build_X2_isPlace : GoodIn wsX2_build wsX2_isPlace := goodIn_r _ [5] (by decide +kernel) (by decide +kernel)
set_option maxRecDepth 20000 in
theorem gX2_build_X2_isPlace : GoodIn wsX2_build (va_wsS RX2 61 yX2_isPlace wsX2_isPlace) := goodIn_app (goodIn_of _ (by decide +kernel)) ggX2_build_X2_isPlace
set_option maxRecDepth 20000 in
theorem ggX2_build_X0_setUp : GoodIn wsX2_build wsX0_setUp := goodIn_r _ [10, 11, 12, 13, 14, 15, 16, 17, 18, 33, 34, 35, 36, 37, 38, 39, 40] (by decide +kernel) (by decide +kernel)
set_option maxRecDepth 20000 in
theorem gX2_build_X0_setUp : GoodIn wsX2_build (wsV RX2 69 RX0 yX0_setUp wsX0_setUp) := goodIn_app (goodIn_of _ (by decide +kernel)) ggX2_build_X0_setUp
theorem dX2_build_0 : decode cX2_build 0 = .ok (.iload_n 1, 1) := by decide +kernel
theorem dX2_build_1 : decode cX2_build 1 = .ok (.invokestatic 61, 3) := by decide +kernel
theorem dX2_build_4 : decode cX2_build 4 = .ok (.ifCond .eq 14, 3) := by decide +kernel
theorem dX2_build_7 : decode cX2_build 7 = .ok (.iload_n 2, 1) := by decide +kernel
theorem dX2_build_8 : decode cX2_build 8 = .ok (.iconst 1, 1) := by decide +kernel
theorem dX2_build_9 : decode cX2_build 9 = .ok (.if_icmp .lt 9, 3) := by decide +kernel
theorem dX2_build_12 : decode cX2_build 12 = .ok (.iload_n 2, 1) := by decide +kernel
theorem dX2_build_13 : decode cX2_build 13 = .ok (.bipush 100, 2) := by decide +kernel
theorem dX2_build_15 : decode cX2_build 15 = .ok (.if_icmp .le 5, 3) := by decide +kernel
theorem dX2_build_18 : decode cX2_build 18 = .ok (.iconst (-1), 1) := by decide +kernel
theorem dX2_build_19 : decode cX2_build 19 = .ok (.ireturn, 1) := by decide +kernel
theorem dX2_build_20 : decode cX2_build 20 = .ok (.aload_n 0, 1) := by decide +kernel
theorem dX2_build_21 : decode cX2_build 21 = .ok (.getfield 11, 3) := by decide +kernel
theorem dX2_build_24 : decode cX2_build 24 = .ok (.iload_n 1, 1) := by decide +kernel
theorem dX2_build_25 : decode cX2_build 25 = .ok (.aaload, 1) := by decide +kernel
theorem dX2_build_26 : decode cX2_build 26 = .ok (.getfield 65, 3) := by decide +kernel
theorem dX2_build_29 : decode cX2_build 29 = .ok (.ifCond .eq 7, 3) := by decide +kernel
theorem dX2_build_32 : decode cX2_build 32 = .ok (.iconst 1, 1) := by decide +kernel
theorem dX2_build_33 : decode cX2_build 33 = .ok (.goto 4, 3) := by decide +kernel
theorem dX2_build_36 : decode cX2_build 36 = .ok (.iconst 0, 1) := by decide +kernel
theorem dX2_build_37 : decode cX2_build 37 = .ok (.istore 4, 2) := by decide +kernel
theorem dX2_build_39 : decode cX2_build 39 = .ok (.aload_n 0, 1) := by decide +kernel
theorem dX2_build_40 : decode cX2_build 40 = .ok (.getfield 11, 3) := by decide +kernel
theorem dX2_build_43 : decode cX2_build 43 = .ok (.iload_n 1, 1) := by decide +kernel
theorem dX2_build_44 : decode cX2_build 44 = .ok (.aaload, 1) := by decide +kernel
theorem dX2_build_45 : decode cX2_build 45 = .ok (.iload_n 2, 1) := by decide +kernel
theorem dX2_build_46 : decode cX2_build 46 = .ok (.iload_n 3, 1) := by decide +kernel
theorem dX2_build_47 : decode cX2_build 47 = .ok (.invokevirtual 69, 3) := by decide +kernel
theorem dX2_build_50 : decode cX2_build 50 = .ok (.iload 4, 2) := by decide +kernel
theorem dX2_build_52 : decode cX2_build 52 = .ok (.ireturn, 1) := by decide +kernel
set_option maxRecDepth 20000 in
theorem ggX2_raze_X2_isPlace : GoodIn wsX2_raze wsX2_isPlace := goodIn_r _ [5] (by decide +kernel) (by decide +kernel)
set_option maxRecDepth 20000 in
theorem gX2_raze_X2_isPlace : GoodIn wsX2_raze (va_wsS RX2 61 yX2_isPlace wsX2_isPlace) := goodIn_app (goodIn_of _ (by decide +kernel)) ggX2_raze_X2_isPlace
theorem dX2_raze_0 : decode cX2_raze 0 = .ok (.iload_n 1, 1) := by decide +kernel
theorem dX2_raze_1 : decode cX2_raze 1 = .ok (.invokestatic 61, 3) := by decide +kernel
theorem dX2_raze_4 : decode cX2_raze 4 = .ok (.ifCond .ne 5, 3) := by decide +kernel
theorem dX2_raze_7 : decode cX2_raze 7 = .ok (.iconst (-1), 1) := by decide +kernel
theorem dX2_raze_8 : decode cX2_raze 8 = .ok (.ireturn, 1) := by decide +kernel
theorem dX2_raze_9 : decode cX2_raze 9 = .ok (.aload_n 0, 1) := by decide +kernel
theorem dX2_raze_10 : decode cX2_raze 10 = .ok (.getfield 11, 3) := by decide +kernel
theorem dX2_raze_13 : decode cX2_raze 13 = .ok (.iload_n 1, 1) := by decide +kernel
theorem dX2_raze_14 : decode cX2_raze 14 = .ok (.aaload, 1) := by decide +kernel
theorem dX2_raze_15 : decode cX2_raze 15 = .ok (.getfield 65, 3) := by decide +kernel
theorem dX2_raze_18 : decode cX2_raze 18 = .ok (.ifCond .eq 7, 3) := by decide +kernel
theorem dX2_raze_21 : decode cX2_raze 21 = .ok (.iconst 1, 1) := by decide +kernel
theorem dX2_raze_22 : decode cX2_raze 22 = .ok (.goto 4, 3) := by decide +kernel
theorem dX2_raze_25 : decode cX2_raze 25 = .ok (.iconst 0, 1) := by decide +kernel
theorem dX2_raze_26 : decode cX2_raze 26 = .ok (.istore_n 2, 1) := by decide +kernel
theorem dX2_raze_27 : decode cX2_raze 27 = .ok (.aload_n 0, 1) := by decide +kernel
theorem dX2_raze_28 : decode cX2_raze 28 = .ok (.getfield 11, 3) := by decide +kernel
theorem dX2_raze_31 : decode cX2_raze 31 = .ok (.iload_n 1, 1) := by decide +kernel
theorem dX2_raze_32 : decode cX2_raze 32 = .ok (.aaload, 1) := by decide +kernel
theorem dX2_raze_33 : decode cX2_raze 33 = .ok (.iconst 0, 1) := by decide +kernel
theorem dX2_raze_34 : decode cX2_raze 34 = .ok (.putfield 65, 3) := by decide +kernel
theorem dX2_raze_37 : decode cX2_raze 37 = .ok (.iload_n 2, 1) := by decide +kernel
theorem dX2_raze_38 : decode cX2_raze 38 = .ok (.ireturn, 1) := by decide +kernel
set_option maxRecDepth 20000 in
theorem ggX2_step_X2_isAct : GoodIn wsX2_step wsX2_isAct := goodIn_r _ [7] (by decide +kernel) (by decide +kernel)
set_option maxRecDepth 20000 in
theorem gX2_step_X2_isAct : GoodIn wsX2_step (va_wsS RX2 73 yX2_isAct wsX2_isAct) := goodIn_app (goodIn_of _ (by decide +kernel)) ggX2_step_X2_isAct
theorem dX2_step_0 : decode cX2_step 0 = .ok (.iload_n 1, 1) := by decide +kernel
theorem dX2_step_1 : decode cX2_step 1 = .ok (.invokestatic 73, 3) := by decide +kernel
theorem dX2_step_4 : decode cX2_step 4 = .ok (.ifCond .ne 5, 3) := by decide +kernel
theorem dX2_step_7 : decode cX2_step 7 = .ok (.iconst (-1), 1) := by decide +kernel
theorem dX2_step_8 : decode cX2_step 8 = .ok (.ireturn, 1) := by decide +kernel
theorem dX2_step_9 : decode cX2_step 9 = .ok (.aload_n 0, 1) := by decide +kernel
theorem dX2_step_10 : decode cX2_step 10 = .ok (.getfield 32, 3) := by decide +kernel
theorem dX2_step_13 : decode cX2_step 13 = .ok (.bipush 30, 2) := by decide +kernel
theorem dX2_step_15 : decode cX2_step 15 = .ok (.if_icmp .lt 6, 3) := by decide +kernel
theorem dX2_step_18 : decode cX2_step 18 = .ok (.bipush (-2), 2) := by decide +kernel
theorem dX2_step_20 : decode cX2_step 20 = .ok (.ireturn, 1) := by decide +kernel
theorem dX2_step_21 : decode cX2_step 21 = .ok (.aload_n 0, 1) := by decide +kernel
theorem dX2_step_22 : decode cX2_step 22 = .ok (.getfield 26, 3) := by decide +kernel
theorem dX2_step_25 : decode cX2_step 25 = .ok (.aload_n 0, 1) := by decide +kernel
theorem dX2_step_26 : decode cX2_step 26 = .ok (.getfield 32, 3) := by decide +kernel
theorem dX2_step_29 : decode cX2_step 29 = .ok (.iload_n 1, 1) := by decide +kernel
theorem dX2_step_30 : decode cX2_step 30 = .ok (.iastore, 1) := by decide +kernel
theorem dX2_step_31 : decode cX2_step 31 = .ok (.aload_n 0, 1) := by decide +kernel
theorem dX2_step_32 : decode cX2_step 32 = .ok (.getfield 29, 3) := by decide +kernel
theorem dX2_step_35 : decode cX2_step 35 = .ok (.aload_n 0, 1) := by decide +kernel
theorem dX2_step_36 : decode cX2_step 36 = .ok (.getfield 32, 3) := by decide +kernel
theorem dX2_step_39 : decode cX2_step 39 = .ok (.iload_n 2, 1) := by decide +kernel
theorem dX2_step_40 : decode cX2_step 40 = .ok (.iastore, 1) := by decide +kernel
theorem dX2_step_41 : decode cX2_step 41 = .ok (.aload_n 0, 1) := by decide +kernel
theorem dX2_step_42 : decode cX2_step 42 = .ok (.dup, 1) := by decide +kernel
theorem dX2_step_43 : decode cX2_step 43 = .ok (.getfield 32, 3) := by decide +kernel
theorem dX2_step_46 : decode cX2_step 46 = .ok (.iconst 1, 1) := by decide +kernel
theorem dX2_step_47 : decode cX2_step 47 = .ok (.iadd, 1) := by decide +kernel
theorem dX2_step_48 : decode cX2_step 48 = .ok (.putfield 32, 3) := by decide +kernel
theorem dX2_step_51 : decode cX2_step 51 = .ok (.aload_n 0, 1) := by decide +kernel
theorem dX2_step_52 : decode cX2_step 52 = .ok (.getfield 32, 3) := by decide +kernel
theorem dX2_step_55 : decode cX2_step 55 = .ok (.ireturn, 1) := by decide +kernel
theorem dX2_clear_0 : decode cX2_clear 0 = .ok (.aload_n 0, 1) := by decide +kernel
theorem dX2_clear_1 : decode cX2_clear 1 = .ok (.getfield 32, 3) := by decide +kernel
theorem dX2_clear_4 : decode cX2_clear 4 = .ok (.istore_n 1, 1) := by decide +kernel
theorem dX2_clear_5 : decode cX2_clear 5 = .ok (.aload_n 0, 1) := by decide +kernel
theorem dX2_clear_6 : decode cX2_clear 6 = .ok (.iconst 0, 1) := by decide +kernel
theorem dX2_clear_7 : decode cX2_clear 7 = .ok (.putfield 32, 3) := by decide +kernel
theorem dX2_clear_10 : decode cX2_clear 10 = .ok (.iload_n 1, 1) := by decide +kernel
theorem dX2_clear_11 : decode cX2_clear 11 = .ok (.ireturn, 1) := by decide +kernel
set_option maxRecDepth 20000 in
theorem ggX2_alter_X2_isAct : GoodIn wsX2_alter wsX2_isAct := goodIn_r _ [7] (by decide +kernel) (by decide +kernel)
set_option maxRecDepth 20000 in
theorem gX2_alter_X2_isAct : GoodIn wsX2_alter (va_wsS RX2 73 yX2_isAct wsX2_isAct) := goodIn_app (goodIn_of _ (by decide +kernel)) ggX2_alter_X2_isAct
theorem dX2_alter_0 : decode cX2_alter 0 = .ok (.iload_n 1, 1) := by decide +kernel
theorem dX2_alter_1 : decode cX2_alter 1 = .ok (.ifCond .lt 18, 3) := by decide +kernel
theorem dX2_alter_4 : decode cX2_alter 4 = .ok (.iload_n 1, 1) := by decide +kernel
theorem dX2_alter_5 : decode cX2_alter 5 = .ok (.aload_n 0, 1) := by decide +kernel
theorem dX2_alter_6 : decode cX2_alter 6 = .ok (.getfield 32, 3) := by decide +kernel
theorem dX2_alter_9 : decode cX2_alter 9 = .ok (.if_icmp .ge 10, 3) := by decide +kernel
theorem dX2_alter_12 : decode cX2_alter 12 = .ok (.iload_n 2, 1) := by decide +kernel
theorem dX2_alter_13 : decode cX2_alter 13 = .ok (.invokestatic 73, 3) := by decide +kernel
theorem dX2_alter_16 : decode cX2_alter 16 = .ok (.ifCond .ne 5, 3) := by decide +kernel
theorem dX2_alter_19 : decode cX2_alter 19 = .ok (.iconst (-1), 1) := by decide +kernel
theorem dX2_alter_20 : decode cX2_alter 20 = .ok (.ireturn, 1) := by decide +kernel
theorem dX2_alter_21 : decode cX2_alter 21 = .ok (.aload_n 0, 1) := by decide +kernel
theorem dX2_alter_22 : decode cX2_alter 22 = .ok (.getfield 26, 3) := by decide +kernel
theorem dX2_alter_25 : decode cX2_alter 25 = .ok (.iload_n 1, 1) := by decide +kernel
theorem dX2_alter_26 : decode cX2_alter 26 = .ok (.iaload, 1) := by decide +kernel
theorem dX2_alter_27 : decode cX2_alter 27 = .ok (.istore 4, 2) := by decide +kernel
theorem dX2_alter_29 : decode cX2_alter 29 = .ok (.aload_n 0, 1) := by decide +kernel
theorem dX2_alter_30 : decode cX2_alter 30 = .ok (.getfield 26, 3) := by decide +kernel
theorem dX2_alter_33 : decode cX2_alter 33 = .ok (.iload_n 1, 1) := by decide +kernel
theorem dX2_alter_34 : decode cX2_alter 34 = .ok (.iload_n 2, 1) := by decide +kernel
theorem dX2_alter_35 : decode cX2_alter 35 = .ok (.iastore, 1) := by decide +kernel
theorem dX2_alter_36 : decode cX2_alter 36 = .ok (.aload_n 0, 1) := by decide +kernel
theorem dX2_alter_37 : decode cX2_alter 37 = .ok (.getfield 29, 3) := by decide +kernel
theorem dX2_alter_40 : decode cX2_alter 40 = .ok (.iload_n 1, 1) := by decide +kernel
theorem dX2_alter_41 : decode cX2_alter 41 = .ok (.iload_n 3, 1) := by decide +kernel
theorem dX2_alter_42 : decode cX2_alter 42 = .ok (.iastore, 1) := by decide +kernel
theorem dX2_alter_43 : decode cX2_alter 43 = .ok (.iload 4, 2) := by decide +kernel
theorem dX2_alter_45 : decode cX2_alter 45 = .ok (.ireturn, 1) := by decide +kernel
set_option maxRecDepth 20000 in
theorem ggX2_run_X2_followOrder : GoodIn wsX2_run wsX2_followOrder := goodIn_ca (goodIn_r _ [11, 2, 3, 12, 13, 14, 15, 16, 17, 10, 18, 19, 4, 20, 21, 22, 23, 24, 25, 26, 27, 28, 29, 30, 31, 32, 33, 34, 35, 36, 37, 38, 39, 40, 41, 42, 43, 44, 45, 46, 47, 48, 49, 50, 51, 52, 53, 54, 55, 56, 57, 58, 59, 60, 61, 62, 63, 64, 65, 66, 67, 68, 69, 70, 71, 72, 73, 74, 75, 76, 77, 78, 79, 80, 81, 82, 83, 84, 85, 86, 87, 88, 89, 90, 91, 92, 93, 94, 95, 96, 97, 98, 99, 101, 102, 103, 104, 105, 106, 107, 108, 109, 110, 111, 112, 113, 114, 115, 116, 117, 118, 119, 120, 121, 122, 123, 124, 125, 126] (by decide +kernel) (by decide +kernel)) (goodIn_sub (fun _ h => List.mem_cons_of_mem _ (List.mem_append_right _ h)) (by decide +kernel))
set_option maxRecDepth 20000 in
theorem gX2_run_X2_followOrder : GoodIn wsX2_run (wsV RX2 76 RX2 yX2_followOrder wsX2_followOrder) := goodIn_app (goodIn_of _ (by decide +kernel)) ggX2_run_X2_followOrder
set_option maxRecDepth 20000 in
theorem ggX2_run_X1_leaveDownTo : GoodIn wsX2_run wsX1_leaveDownTo := goodIn_r _ [49, 34, 39, 123, 124, 125, 126, 115, 116, 117, 118, 119, 120, 121, 122] (by decide +kernel) (by decide +kernel)
set_option maxRecDepth 20000 in
theorem gX2_run_X1_leaveDownTo : GoodIn wsX2_run (wsV RX2 80 RX1 yX1_leaveDownTo wsX1_leaveDownTo) := goodIn_app (goodIn_of _ (by decide +kernel)) ggX2_run_X1_leaveDownTo
theorem dX2_run_0 : decode cX2_run 0 = .ok (.aload_n 0, 1) := by decide +kernel
theorem dX2_run_1 : decode cX2_run 1 = .ok (.dup, 1) := by decide +kernel
theorem dX2_run_2 : decode cX2_run 2 = .ok (.getfield 48, 3) := by decide +kernel
theorem dX2_run_5 : decode cX2_run 5 = .ok (.iconst 1, 1) := by decide +kernel
theorem dX2_run_6 : decode cX2_run 6 = .ok (.iadd, 1) := by decide +kernel
theorem dX2_run_7 : decode cX2_run 7 = .ok (.putfield 48, 3) := by decide +kernel
theorem dX2_run_10 : decode cX2_run 10 = .ok (.aload_n 0, 1) := by decide +kernel
theorem dX2_run_11 : decode cX2_run 11 = .ok (.iconst 0, 1) := by decide +kernel
theorem dX2_run_12 : decode cX2_run 12 = .ok (.putfield 39, 3) := by decide +kernel
theorem dX2_run_15 : decode cX2_run 15 = .ok (.aload_n 0, 1) := by decide +kernel
theorem dX2_run_16 : decode cX2_run 16 = .ok (.iconst 0, 1) := by decide +kernel
theorem dX2_run_17 : decode cX2_run 17 = .ok (.putfield 36, 3) := by decide +kernel
theorem dX2_run_20 : decode cX2_run 20 = .ok (.aload_n 0, 1) := by decide +kernel
theorem dX2_run_21 : decode cX2_run 21 = .ok (.invokevirtual 76, 3) := by decide +kernel
theorem dX2_run_24 : decode cX2_run 24 = .ok (.istore_n 1, 1) := by decide +kernel
theorem dX2_run_25 : decode cX2_run 25 = .ok (.aload_n 0, 1) := by decide +kernel
theorem dX2_run_26 : decode cX2_run 26 = .ok (.getfield 18, 3) := by decide +kernel
theorem dX2_run_29 : decode cX2_run 29 = .ok (.iconst 0, 1) := by decide +kernel
theorem dX2_run_30 : decode cX2_run 30 = .ok (.invokevirtual 80, 3) := by decide +kernel
theorem dX2_run_33 : decode cX2_run 33 = .ok (.iload_n 1, 1) := by decide +kernel
theorem dX2_run_34 : decode cX2_run 34 = .ok (.bipush (-3), 2) := by decide +kernel
theorem dX2_run_36 : decode cX2_run 36 = .ok (.if_icmp .ne 16, 3) := by decide +kernel
theorem dX2_run_39 : decode cX2_run 39 = .ok (.aload_n 0, 1) := by decide +kernel
theorem dX2_run_40 : decode cX2_run 40 = .ok (.dup, 1) := by decide +kernel
theorem dX2_run_41 : decode cX2_run 41 = .ok (.getfield 54, 3) := by decide +kernel
theorem dX2_run_44 : decode cX2_run 44 = .ok (.iconst 1, 1) := by decide +kernel
theorem dX2_run_45 : decode cX2_run 45 = .ok (.iadd, 1) := by decide +kernel
theorem dX2_run_46 : decode cX2_run 46 = .ok (.putfield 54, 3) := by decide +kernel
theorem dX2_run_49 : decode cX2_run 49 = .ok (.bipush (-3), 2) := by decide +kernel
theorem dX2_run_51 : decode cX2_run 51 = .ok (.ireturn, 1) := by decide +kernel
theorem dX2_run_52 : decode cX2_run 52 = .ok (.iload_n 1, 1) := by decide +kernel
theorem dX2_run_53 : decode cX2_run 53 = .ok (.ifCond .eq 18, 3) := by decide +kernel
theorem dX2_run_56 : decode cX2_run 56 = .ok (.aload_n 0, 1) := by decide +kernel
theorem dX2_run_57 : decode cX2_run 57 = .ok (.dup, 1) := by decide +kernel
theorem dX2_run_58 : decode cX2_run 58 = .ok (.getfield 51, 3) := by decide +kernel
theorem dX2_run_61 : decode cX2_run 61 = .ok (.iconst 1, 1) := by decide +kernel
theorem dX2_run_62 : decode cX2_run 62 = .ok (.iadd, 1) := by decide +kernel
theorem dX2_run_63 : decode cX2_run 63 = .ok (.putfield 51, 3) := by decide +kernel
theorem dX2_run_66 : decode cX2_run 66 = .ok (.bipush (-10), 2) := by decide +kernel
theorem dX2_run_68 : decode cX2_run 68 = .ok (.iload_n 1, 1) := by decide +kernel
theorem dX2_run_69 : decode cX2_run 69 = .ok (.isub, 1) := by decide +kernel
theorem dX2_run_70 : decode cX2_run 70 = .ok (.ireturn, 1) := by decide +kernel
theorem dX2_run_71 : decode cX2_run 71 = .ok (.aload_n 0, 1) := by decide +kernel
theorem dX2_run_72 : decode cX2_run 72 = .ok (.getfield 39, 3) := by decide +kernel
theorem dX2_run_75 : decode cX2_run 75 = .ok (.ireturn, 1) := by decide +kernel
theorem dX2_begun_0 : decode cX2_begun 0 = .ok (.aload_n 0, 1) := by decide +kernel
theorem dX2_begun_1 : decode cX2_begun 1 = .ok (.getfield 39, 3) := by decide +kernel
theorem dX2_begun_4 : decode cX2_begun 4 = .ok (.ireturn, 1) := by decide +kernel
theorem dX2_where_0 : decode cX2_where 0 = .ok (.aload_n 0, 1) := by decide +kernel
theorem dX2_where_1 : decode cX2_where 1 = .ok (.getfield 42, 3) := by decide +kernel
theorem dX2_where_4 : decode cX2_where 4 = .ok (.ireturn, 1) := by decide +kernel
set_option maxRecDepth 20000 in
theorem ggX2_house_X2_isPlace : GoodIn wsX2_house wsX2_isPlace := goodIn_r _ [5] (by decide +kernel) (by decide +kernel)
set_option maxRecDepth 20000 in
theorem gX2_house_X2_isPlace : GoodIn wsX2_house (va_wsS RX2 61 yX2_isPlace wsX2_isPlace) := goodIn_app (goodIn_of _ (by decide +kernel)) ggX2_house_X2_isPlace
set_option maxRecDepth 20000 in
theorem ggX2_house_X0_tell : GoodIn wsX2_house wsX0_tell := goodIn_r _ [10, 11, 12, 13, 14, 15, 16, 17, 32, 33, 34, 35, 36, 37, 38, 39] (by decide +kernel) (by decide +kernel)
set_option maxRecDepth 20000 in
theorem gX2_house_X0_tell : GoodIn wsX2_house (wsV RX2 84 RX0 yX0_tell wsX0_tell) := goodIn_app (goodIn_of _ (by decide +kernel)) ggX2_house_X0_tell
theorem dX2_house_0 : decode cX2_house 0 = .ok (.iload_n 1, 1) := by decide +kernel
theorem dX2_house_1 : decode cX2_house 1 = .ok (.invokestatic 61, 3) := by decide +kernel
theorem dX2_house_4 : decode cX2_house 4 = .ok (.ifCond .eq 15, 3) := by decide +kernel
theorem dX2_house_7 : decode cX2_house 7 = .ok (.aload_n 0, 1) := by decide +kernel
theorem dX2_house_8 : decode cX2_house 8 = .ok (.getfield 11, 3) := by decide +kernel
theorem dX2_house_11 : decode cX2_house 11 = .ok (.iload_n 1, 1) := by decide +kernel
theorem dX2_house_12 : decode cX2_house 12 = .ok (.aaload, 1) := by decide +kernel
theorem dX2_house_13 : decode cX2_house 13 = .ok (.getfield 65, 3) := by decide +kernel
theorem dX2_house_16 : decode cX2_house 16 = .ok (.ifCond .ne 5, 3) := by decide +kernel
theorem dX2_house_19 : decode cX2_house 19 = .ok (.iconst (-1), 1) := by decide +kernel
theorem dX2_house_20 : decode cX2_house 20 = .ok (.ireturn, 1) := by decide +kernel
theorem dX2_house_21 : decode cX2_house 21 = .ok (.aload_n 0, 1) := by decide +kernel
theorem dX2_house_22 : decode cX2_house 22 = .ok (.getfield 11, 3) := by decide +kernel
theorem dX2_house_25 : decode cX2_house 25 = .ok (.iload_n 1, 1) := by decide +kernel
theorem dX2_house_26 : decode cX2_house 26 = .ok (.aaload, 1) := by decide +kernel
theorem dX2_house_27 : decode cX2_house 27 = .ok (.iload_n 2, 1) := by decide +kernel
theorem dX2_house_28 : decode cX2_house 28 = .ok (.invokevirtual 84, 3) := by decide +kernel
theorem dX2_house_31 : decode cX2_house 31 = .ok (.ireturn, 1) := by decide +kernel
set_option maxRecDepth 20000 in
theorem ggX2_row_X2_isRow : GoodIn wsX2_row wsX2_isRow := goodIn_r _ [8] (by decide +kernel) (by decide +kernel)
set_option maxRecDepth 20000 in
theorem gX2_row_X2_isRow : GoodIn wsX2_row (va_wsS RX2 88 yX2_isRow wsX2_isRow) := goodIn_app (goodIn_of _ (by decide +kernel)) ggX2_row_X2_isRow
theorem dX2_row_0 : decode cX2_row 0 = .ok (.iload_n 1, 1) := by decide +kernel
theorem dX2_row_1 : decode cX2_row 1 = .ok (.invokestatic 88, 3) := by decide +kernel
theorem dX2_row_4 : decode cX2_row 4 = .ok (.ifCond .ne 13, 3) := by decide +kernel
theorem dX2_row_7 : decode cX2_row 7 = .ok (.new 91, 3) := by decide +kernel
theorem dX2_row_10 : decode cX2_row 10 = .ok (.dup, 1) := by decide +kernel
theorem dX2_row_11 : decode cX2_row 11 = .ok (.ldc 93, 2) := by decide +kernel
theorem dX2_row_13 : decode cX2_row 13 = .ok (.invokespecial 95, 3) := by decide +kernel
theorem dX2_row_16 : decode cX2_row 16 = .ok (.athrow, 1) := by decide +kernel
theorem dX2_row_17 : decode cX2_row 17 = .ok (.aload_n 0, 1) := by decide +kernel
theorem dX2_row_18 : decode cX2_row 18 = .ok (.getfield 22, 3) := by decide +kernel
theorem dX2_row_21 : decode cX2_row 21 = .ok (.iload_n 1, 1) := by decide +kernel
theorem dX2_row_22 : decode cX2_row 22 = .ok (.iaload, 1) := by decide +kernel
theorem dX2_row_23 : decode cX2_row 23 = .ok (.ireturn, 1) := by decide +kernel
set_option maxRecDepth 20000 in
theorem ggX2_count_X2_standingHouses : GoodIn wsX2_count wsX2_standingHouses := goodIn_r _ [11, 12, 13, 14, 15, 16, 17, 18, 19, 20, 21, 22, 23, 24, 25, 26, 27, 28, 29, 30, 31, 32, 33, 34] (by decide +kernel) (by decide +kernel)
set_option maxRecDepth 20000 in
theorem gX2_count_X2_standingHouses : GoodIn wsX2_count (wsV RX2 98 RX2 yX2_standingHouses wsX2_standingHouses) := goodIn_app (goodIn_of _ (by decide +kernel)) ggX2_count_X2_standingHouses
theorem dX2_count_0 : decode cX2_count 0 = .ok (.iload_n 1, 1) := by decide +kernel
theorem dX2_count_1 : decode cX2_count 1 = .ok (.bipush 10, 2) := by decide +kernel
theorem dX2_count_3 : decode cX2_count 3 = .ok (.if_icmp .le 19, 3) := by decide +kernel
theorem dX2_count_6 : decode cX2_count 6 = .ok (.iload_n 1, 1) := by decide +kernel
theorem dX2_count_7 : decode cX2_count 7 = .ok (.bipush 16, 2) := by decide +kernel
theorem dX2_count_9 : decode cX2_count 9 = .ok (.if_icmp .gt 13, 3) := by decide +kernel
theorem dX2_count_12 : decode cX2_count 12 = .ok (.aload_n 0, 1) := by decide +kernel
theorem dX2_count_13 : decode cX2_count 13 = .ok (.getfield 45, 3) := by decide +kernel
theorem dX2_count_16 : decode cX2_count 16 = .ok (.iload_n 1, 1) := by decide +kernel
theorem dX2_count_17 : decode cX2_count 17 = .ok (.bipush 10, 2) := by decide +kernel
theorem dX2_count_19 : decode cX2_count 19 = .ok (.isub, 1) := by decide +kernel
theorem dX2_count_20 : decode cX2_count 20 = .ok (.iaload, 1) := by decide +kernel
theorem dX2_count_21 : decode cX2_count 21 = .ok (.ireturn, 1) := by decide +kernel
theorem dX2_count_22 : decode cX2_count 22 = .ok (.iload_n 1, 1) := by decide +kernel
theorem dX2_count_23 : decode cX2_count 23 = .ok (.tableswitch 67 0 5 #[37, 42, 47, 52, 57, 62], 37) := by decide +kernel
theorem dX2_count_60 : decode cX2_count 60 = .ok (.aload_n 0, 1) := by decide +kernel
theorem dX2_count_61 : decode cX2_count 61 = .ok (.invokevirtual 98, 3) := by decide +kernel
theorem dX2_count_64 : decode cX2_count 64 = .ok (.ireturn, 1) := by decide +kernel
theorem dX2_count_65 : decode cX2_count 65 = .ok (.aload_n 0, 1) := by decide +kernel
theorem dX2_count_66 : decode cX2_count 66 = .ok (.getfield 32, 3) := by decide +kernel
theorem dX2_count_69 : decode cX2_count 69 = .ok (.ireturn, 1) := by decide +kernel
theorem dX2_count_70 : decode cX2_count 70 = .ok (.aload_n 0, 1) := by decide +kernel
theorem dX2_count_71 : decode cX2_count 71 = .ok (.getfield 48, 3) := by decide +kernel
theorem dX2_count_74 : decode cX2_count 74 = .ok (.ireturn, 1) := by decide +kernel
theorem dX2_count_75 : decode cX2_count 75 = .ok (.aload_n 0, 1) := by decide +kernel
theorem dX2_count_76 : decode cX2_count 76 = .ok (.getfield 51, 3) := by decide +kernel
theorem dX2_count_79 : decode cX2_count 79 = .ok (.ireturn, 1) := by decide +kernel
theorem dX2_count_80 : decode cX2_count 80 = .ok (.aload_n 0, 1) := by decide +kernel
theorem dX2_count_81 : decode cX2_count 81 = .ok (.getfield 54, 3) := by decide +kernel
theorem dX2_count_84 : decode cX2_count 84 = .ok (.ireturn, 1) := by decide +kernel
theorem dX2_count_85 : decode cX2_count 85 = .ok (.aload_n 0, 1) := by decide +kernel
theorem dX2_count_86 : decode cX2_count 86 = .ok (.getfield 57, 3) := by decide +kernel
theorem dX2_count_89 : decode cX2_count 89 = .ok (.ireturn, 1) := by decide +kernel
theorem dX2_count_90 : decode cX2_count 90 = .ok (.iconst (-1), 1) := by decide +kernel
theorem dX2_count_91 : decode cX2_count 91 = .ok (.ireturn, 1) := by decide +kernel
theorem dX2_isPlace_0 : decode cX2_isPlace 0 = .ok (.iload_n 0, 1) := by decide +kernel
theorem dX2_isPlace_1 : decode cX2_isPlace 1 = .ok (.ifCond .lt 13, 3) := by decide +kernel
theorem dX2_isPlace_4 : decode cX2_isPlace 4 = .ok (.iload_n 0, 1) := by decide +kernel
theorem dX2_isPlace_5 : decode cX2_isPlace 5 = .ok (.bipush 8, 2) := by decide +kernel
theorem dX2_isPlace_7 : decode cX2_isPlace 7 = .ok (.if_icmp .ge 7, 3) := by decide +kernel
theorem dX2_isPlace_10 : decode cX2_isPlace 10 = .ok (.iconst 1, 1) := by decide +kernel
theorem dX2_isPlace_11 : decode cX2_isPlace 11 = .ok (.goto 4, 3) := by decide +kernel
theorem dX2_isPlace_14 : decode cX2_isPlace 14 = .ok (.iconst 0, 1) := by decide +kernel
theorem dX2_isPlace_15 : decode cX2_isPlace 15 = .ok (.ireturn, 1) := by decide +kernel
theorem dX2_isAct_0 : decode cX2_isAct 0 = .ok (.iload_n 0, 1) := by decide +kernel
theorem dX2_isAct_1 : decode cX2_isAct 1 = .ok (.ifCond .lt 13, 3) := by decide +kernel
theorem dX2_isAct_4 : decode cX2_isAct 4 = .ok (.iload_n 0, 1) := by decide +kernel
theorem dX2_isAct_5 : decode cX2_isAct 5 = .ok (.bipush 8, 2) := by decide +kernel
theorem dX2_isAct_7 : decode cX2_isAct 7 = .ok (.if_icmp .gt 7, 3) := by decide +kernel
theorem dX2_isAct_10 : decode cX2_isAct 10 = .ok (.iconst 1, 1) := by decide +kernel
theorem dX2_isAct_11 : decode cX2_isAct 11 = .ok (.goto 4, 3) := by decide +kernel
theorem dX2_isAct_14 : decode cX2_isAct 14 = .ok (.iconst 0, 1) := by decide +kernel
theorem dX2_isAct_15 : decode cX2_isAct 15 = .ok (.ireturn, 1) := by decide +kernel
theorem dX2_isRow_0 : decode cX2_isRow 0 = .ok (.iload_n 0, 1) := by decide +kernel
theorem dX2_isRow_1 : decode cX2_isRow 1 = .ok (.ifCond .lt 13, 3) := by decide +kernel
theorem dX2_isRow_4 : decode cX2_isRow 4 = .ok (.iload_n 0, 1) := by decide +kernel
theorem dX2_isRow_5 : decode cX2_isRow 5 = .ok (.bipush 8, 2) := by decide +kernel
theorem dX2_isRow_7 : decode cX2_isRow 7 = .ok (.if_icmp .ge 7, 3) := by decide +kernel
theorem dX2_isRow_10 : decode cX2_isRow 10 = .ok (.iconst 1, 1) := by decide +kernel
theorem dX2_isRow_11 : decode cX2_isRow 11 = .ok (.goto 4, 3) := by decide +kernel
theorem dX2_isRow_14 : decode cX2_isRow 14 = .ok (.iconst 0, 1) := by decide +kernel
theorem dX2_isRow_15 : decode cX2_isRow 15 = .ok (.ireturn, 1) := by decide +kernel
theorem dX2_standingHouses_0 : decode cX2_standingHouses 0 = .ok (.iconst 0, 1) := by decide +kernel
theorem dX2_standingHouses_1 : decode cX2_standingHouses 1 = .ok (.istore_n 1, 1) := by decide +kernel
theorem dX2_standingHouses_2 : decode cX2_standingHouses 2 = .ok (.iconst 0, 1) := by decide +kernel
theorem dX2_standingHouses_3 : decode cX2_standingHouses 3 = .ok (.istore_n 2, 1) := by decide +kernel
theorem dX2_standingHouses_4 : decode cX2_standingHouses 4 = .ok (.iload_n 2, 1) := by decide +kernel
theorem dX2_standingHouses_5 : decode cX2_standingHouses 5 = .ok (.bipush 8, 2) := by decide +kernel
theorem dX2_standingHouses_7 : decode cX2_standingHouses 7 = .ok (.if_icmp .ge 24, 3) := by decide +kernel
theorem dX2_standingHouses_10 : decode cX2_standingHouses 10 = .ok (.aload_n 0, 1) := by decide +kernel
theorem dX2_standingHouses_11 : decode cX2_standingHouses 11 = .ok (.getfield 11, 3) := by decide +kernel
theorem dX2_standingHouses_14 : decode cX2_standingHouses 14 = .ok (.iload_n 2, 1) := by decide +kernel
theorem dX2_standingHouses_15 : decode cX2_standingHouses 15 = .ok (.aaload, 1) := by decide +kernel
theorem dX2_standingHouses_16 : decode cX2_standingHouses 16 = .ok (.getfield 65, 3) := by decide +kernel
theorem dX2_standingHouses_19 : decode cX2_standingHouses 19 = .ok (.ifCond .eq 6, 3) := by decide +kernel
theorem dX2_standingHouses_22 : decode cX2_standingHouses 22 = .ok (.iinc 1 1, 3) := by decide +kernel
theorem dX2_standingHouses_25 : decode cX2_standingHouses 25 = .ok (.iinc 2 1, 3) := by decide +kernel
theorem dX2_standingHouses_28 : decode cX2_standingHouses 28 = .ok (.goto (-24), 3) := by decide +kernel
theorem dX2_standingHouses_31 : decode cX2_standingHouses 31 = .ok (.iload_n 1, 1) := by decide +kernel
theorem dX2_standingHouses_32 : decode cX2_standingHouses 32 = .ok (.ireturn, 1) := by decide +kernel
set_option maxRecDepth 20000 in
theorem ggX2_followOrder_X2_perform : GoodIn wsX2_followOrder wsX2_perform := goodIn_ca (goodIn_r _ [10, 11, 4, 12, 2, 13, 14, 15, 16, 17, 18, 19, 9, 20, 21, 22, 23, 24, 25, 26, 27, 28, 29, 30, 31, 32, 33, 34, 35, 36, 37, 38, 39, 40, 41, 42, 43, 44, 45, 46, 47, 48, 49, 50, 51, 52, 53, 54, 55, 56, 57, 58, 59, 60, 61, 62, 63, 64, 65, 66, 67, 68, 69, 70, 71, 72, 73, 74, 75, 76, 77, 78, 79, 80, 81, 82, 93, 94, 95, 96, 97, 98, 99, 100, 101, 102, 103, 104, 105, 106, 107, 108, 109, 110, 111, 112, 113, 114, 115, 116, 117, 118] (by decide +kernel) (by decide +kernel)) (goodIn_sub (fun _ h => List.mem_cons_of_mem _ (List.mem_append_right _ h)) (by decide +kernel))
set_option maxRecDepth 20000 in
theorem gX2_followOrder_X2_perform : GoodIn wsX2_followOrder (wsV RX2 101 RX2 yX2_perform wsX2_perform) := goodIn_app (goodIn_of _ (by decide +kernel)) ggX2_followOrder_X2_perform
set_option maxRecDepth 20000 in
theorem ggX2_followOrder_X2_isCaught : GoodIn wsX2_followOrder wsX2_isCaught := goodIn_ca (goodIn_r _ [86, 87, 88, 12, 89, 90, 91, 25, 92, 27, 32, 39, 40, 41, 42, 93, 94, 95, 96, 97, 98, 99, 100, 101, 102, 103, 104, 105, 106, 115, 116, 117, 118, 107, 108, 109, 110, 111, 112, 113, 114] (by decide +kernel) (by decide +kernel)) (goodIn_sub (fun _ h => List.mem_cons_of_mem _ (List.mem_append_right _ h)) (by decide +kernel))
set_option maxRecDepth 20000 in
theorem gX2_followOrder_X2_isCaught : GoodIn wsX2_followOrder (wsV RX2 104 RX2 yX2_isCaught wsX2_isCaught) := goodIn_app (goodIn_of _ (by decide +kernel)) ggX2_followOrder_X2_isCaught
theorem dX2_followOrder_0 : decode cX2_followOrder 0 = .ok (.aload_n 0, 1) := by decide +kernel
theorem dX2_followOrder_1 : decode cX2_followOrder 1 = .ok (.getfield 39, 3) := by decide +kernel
theorem dX2_followOrder_4 : decode cX2_followOrder 4 = .ok (.bipush 80, 2) := by decide +kernel
theorem dX2_followOrder_6 : decode cX2_followOrder 6 = .ok (.if_icmp .ge 85, 3) := by decide +kernel
theorem dX2_followOrder_9 : decode cX2_followOrder 9 = .ok (.aload_n 0, 1) := by decide +kernel
theorem dX2_followOrder_10 : decode cX2_followOrder 10 = .ok (.getfield 36, 3) := by decide +kernel
theorem dX2_followOrder_13 : decode cX2_followOrder 13 = .ok (.aload_n 0, 1) := by decide +kernel
theorem dX2_followOrder_14 : decode cX2_followOrder 14 = .ok (.getfield 32, 3) := by decide +kernel
theorem dX2_followOrder_17 : decode cX2_followOrder 17 = .ok (.if_icmp .lt 5, 3) := by decide +kernel
theorem dX2_followOrder_20 : decode cX2_followOrder 20 = .ok (.iconst 0, 1) := by decide +kernel
theorem dX2_followOrder_21 : decode cX2_followOrder 21 = .ok (.ireturn, 1) := by decide +kernel
theorem dX2_followOrder_22 : decode cX2_followOrder 22 = .ok (.aload_n 0, 1) := by decide +kernel
theorem dX2_followOrder_23 : decode cX2_followOrder 23 = .ok (.getfield 36, 3) := by decide +kernel
theorem dX2_followOrder_26 : decode cX2_followOrder 26 = .ok (.istore_n 1, 1) := by decide +kernel
theorem dX2_followOrder_27 : decode cX2_followOrder 27 = .ok (.aload_n 0, 1) := by decide +kernel
theorem dX2_followOrder_28 : decode cX2_followOrder 28 = .ok (.dup, 1) := by decide +kernel
theorem dX2_followOrder_29 : decode cX2_followOrder 29 = .ok (.getfield 39, 3) := by decide +kernel
theorem dX2_followOrder_32 : decode cX2_followOrder 32 = .ok (.iconst 1, 1) := by decide +kernel
theorem dX2_followOrder_33 : decode cX2_followOrder 33 = .ok (.iadd, 1) := by decide +kernel
theorem dX2_followOrder_34 : decode cX2_followOrder 34 = .ok (.putfield 39, 3) := by decide +kernel
theorem dX2_followOrder_37 : decode cX2_followOrder 37 = .ok (.aload_n 0, 1) := by decide +kernel
theorem dX2_followOrder_38 : decode cX2_followOrder 38 = .ok (.iload_n 1, 1) := by decide +kernel
theorem dX2_followOrder_39 : decode cX2_followOrder 39 = .ok (.iconst 1, 1) := by decide +kernel
theorem dX2_followOrder_40 : decode cX2_followOrder 40 = .ok (.iadd, 1) := by decide +kernel
theorem dX2_followOrder_41 : decode cX2_followOrder 41 = .ok (.putfield 36, 3) := by decide +kernel
theorem dX2_followOrder_44 : decode cX2_followOrder 44 = .ok (.aload_n 0, 1) := by decide +kernel
theorem dX2_followOrder_45 : decode cX2_followOrder 45 = .ok (.getfield 26, 3) := by decide +kernel
theorem dX2_followOrder_48 : decode cX2_followOrder 48 = .ok (.iload_n 1, 1) := by decide +kernel
theorem dX2_followOrder_49 : decode cX2_followOrder 49 = .ok (.iaload, 1) := by decide +kernel
theorem dX2_followOrder_50 : decode cX2_followOrder 50 = .ok (.bipush 6, 2) := by decide +kernel
theorem dX2_followOrder_52 : decode cX2_followOrder 52 = .ok (.if_icmp .ne 15, 3) := by decide +kernel
theorem dX2_followOrder_55 : decode cX2_followOrder 55 = .ok (.aload_n 0, 1) := by decide +kernel
theorem dX2_followOrder_56 : decode cX2_followOrder 56 = .ok (.dup, 1) := by decide +kernel
theorem dX2_followOrder_57 : decode cX2_followOrder 57 = .ok (.getfield 57, 3) := by decide +kernel
theorem dX2_followOrder_60 : decode cX2_followOrder 60 = .ok (.iconst 1, 1) := by decide +kernel
theorem dX2_followOrder_61 : decode cX2_followOrder 61 = .ok (.iadd, 1) := by decide +kernel
theorem dX2_followOrder_62 : decode cX2_followOrder 62 = .ok (.putfield 57, 3) := by decide +kernel
theorem dX2_followOrder_65 : decode cX2_followOrder 65 = .ok (.iconst 0, 1) := by decide +kernel
theorem dX2_followOrder_66 : decode cX2_followOrder 66 = .ok (.ireturn, 1) := by decide +kernel
theorem dX2_followOrder_67 : decode cX2_followOrder 67 = .ok (.aload_n 0, 1) := by decide +kernel
theorem dX2_followOrder_68 : decode cX2_followOrder 68 = .ok (.iload_n 1, 1) := by decide +kernel
theorem dX2_followOrder_69 : decode cX2_followOrder 69 = .ok (.invokevirtual 101, 3) := by decide +kernel
theorem dX2_followOrder_72 : decode cX2_followOrder 72 = .ok (.istore_n 2, 1) := by decide +kernel
theorem dX2_followOrder_73 : decode cX2_followOrder 73 = .ok (.iload_n 2, 1) := by decide +kernel
theorem dX2_followOrder_74 : decode cX2_followOrder 74 = .ok (.ifCond .eq 14, 3) := by decide +kernel
theorem dX2_followOrder_77 : decode cX2_followOrder 77 = .ok (.aload_n 0, 1) := by decide +kernel
theorem dX2_followOrder_78 : decode cX2_followOrder 78 = .ok (.iload_n 2, 1) := by decide +kernel
theorem dX2_followOrder_79 : decode cX2_followOrder 79 = .ok (.iload_n 1, 1) := by decide +kernel
theorem dX2_followOrder_80 : decode cX2_followOrder 80 = .ok (.invokevirtual 104, 3) := by decide +kernel
theorem dX2_followOrder_83 : decode cX2_followOrder 83 = .ok (.ifCond .ne 5, 3) := by decide +kernel
theorem dX2_followOrder_86 : decode cX2_followOrder 86 = .ok (.iload_n 2, 1) := by decide +kernel
theorem dX2_followOrder_87 : decode cX2_followOrder 87 = .ok (.ireturn, 1) := by decide +kernel
theorem dX2_followOrder_88 : decode cX2_followOrder 88 = .ok (.goto (-88), 3) := by decide +kernel
theorem dX2_followOrder_91 : decode cX2_followOrder 91 = .ok (.aload_n 0, 1) := by decide +kernel
theorem dX2_followOrder_92 : decode cX2_followOrder 92 = .ok (.getfield 36, 3) := by decide +kernel
theorem dX2_followOrder_95 : decode cX2_followOrder 95 = .ok (.aload_n 0, 1) := by decide +kernel
theorem dX2_followOrder_96 : decode cX2_followOrder 96 = .ok (.getfield 32, 3) := by decide +kernel
theorem dX2_followOrder_99 : decode cX2_followOrder 99 = .ok (.if_icmp .ge 8, 3) := by decide +kernel
theorem dX2_followOrder_102 : decode cX2_followOrder 102 = .ok (.bipush (-3), 2) := by decide +kernel
theorem dX2_followOrder_104 : decode cX2_followOrder 104 = .ok (.goto 4, 3) := by decide +kernel
theorem dX2_followOrder_107 : decode cX2_followOrder 107 = .ok (.iconst 0, 1) := by decide +kernel
theorem dX2_followOrder_108 : decode cX2_followOrder 108 = .ok (.ireturn, 1) := by decide +kernel
set_option maxRecDepth 20000 in
theorem ggX2_isCaught_X1_leaveByRefuge : GoodIn wsX2_isCaught wsX1_leaveByRefuge := goodIn_r _ [8, 9, 10, 11, 12, 13, 7, 14, 29, 30, 31, 32, 33, 34, 35, 36, 37, 38, 39, 40] (by decide +kernel) (by decide +kernel)
set_option maxRecDepth 20000 in
theorem gX2_isCaught_X1_leaveByRefuge : GoodIn wsX2_isCaught (wsV RX2 108 RX1 yX1_leaveByRefuge wsX1_leaveByRefuge) := goodIn_app (goodIn_of _ (by decide +kernel)) ggX2_isCaught_X1_leaveByRefuge
theorem dX2_isCaught_0 : decode cX2_isCaught 0 = .ok (.aload_n 0, 1) := by decide +kernel
theorem dX2_isCaught_1 : decode cX2_isCaught 1 = .ok (.getfield 45, 3) := by decide +kernel
theorem dX2_isCaught_4 : decode cX2_isCaught 4 = .ok (.iload_n 1, 1) := by decide +kernel
theorem dX2_isCaught_5 : decode cX2_isCaught 5 = .ok (.dup2, 1) := by decide +kernel
theorem dX2_isCaught_6 : decode cX2_isCaught 6 = .ok (.iaload, 1) := by decide +kernel
theorem dX2_isCaught_7 : decode cX2_isCaught 7 = .ok (.iconst 1, 1) := by decide +kernel
theorem dX2_isCaught_8 : decode cX2_isCaught 8 = .ok (.iadd, 1) := by decide +kernel
theorem dX2_isCaught_9 : decode cX2_isCaught 9 = .ok (.iastore, 1) := by decide +kernel
theorem dX2_isCaught_10 : decode cX2_isCaught 10 = .ok (.aload_n 0, 1) := by decide +kernel
theorem dX2_isCaught_11 : decode cX2_isCaught 11 = .ok (.iload_n 2, 1) := by decide +kernel
theorem dX2_isCaught_12 : decode cX2_isCaught 12 = .ok (.putfield 42, 3) := by decide +kernel
theorem dX2_isCaught_15 : decode cX2_isCaught 15 = .ok (.aload_n 0, 1) := by decide +kernel
theorem dX2_isCaught_16 : decode cX2_isCaught 16 = .ok (.getfield 18, 3) := by decide +kernel
theorem dX2_isCaught_19 : decode cX2_isCaught 19 = .ok (.invokevirtual 108, 3) := by decide +kernel
theorem dX2_isCaught_22 : decode cX2_isCaught 22 = .ok (.ireturn, 1) := by decide +kernel
set_option maxRecDepth 20000 in
theorem ggX2_perform_J9_floorMod_7cf53 : GoodIn wsX2_perform wsJ9_floorMod_7cf53 := goodIn_r _ [8] (by decide +kernel) (by decide +kernel)
set_option maxRecDepth 20000 in
theorem gX2_perform_J9_floorMod_7cf53 : GoodIn wsX2_perform (va_wsS RX2 112 yJ9_floorMod_7cf53 wsJ9_floorMod_7cf53) := goodIn_app (goodIn_of _ (by decide +kernel)) ggX2_perform_J9_floorMod_7cf53
set_option maxRecDepth 20000 in
theorem ggX2_perform_X2_goIn : GoodIn wsX2_perform wsX2_goIn := goodIn_ca (goodIn_r _ [13, 3, 14, 15, 16, 17, 18, 19, 20, 21, 22, 23, 24, 25, 26, 27, 76, 77, 78, 79, 80, 81, 82, 83, 84, 85, 86, 87, 88, 89, 90, 91, 92, 93, 94, 95, 96, 97, 98, 99, 100, 101] (by decide +kernel) (by decide +kernel)) (goodIn_sub (fun _ h => List.mem_cons_of_mem _ (List.mem_append_right _ h)) (by decide +kernel))
set_option maxRecDepth 20000 in
theorem gX2_perform_X2_goIn : GoodIn wsX2_perform (wsV RX2 118 RX2 yX2_goIn wsX2_goIn) := goodIn_app (goodIn_of _ (by decide +kernel)) ggX2_perform_X2_goIn
set_option maxRecDepth 20000 in
theorem ggX2_perform_X1_leaveHere : GoodIn wsX2_perform wsX1_leaveHere := goodIn_r _ [31, 20, 32, 33, 34, 18, 35, 25, 98, 99, 100, 101, 90, 91, 92, 93, 94, 95, 96, 97] (by decide +kernel) (by decide +kernel)
set_option maxRecDepth 20000 in
theorem gX2_perform_X1_leaveHere : GoodIn wsX2_perform (wsV RX2 121 RX1 yX1_leaveHere wsX1_leaveHere) := goodIn_app (goodIn_of _ (by decide +kernel)) ggX2_perform_X1_leaveHere
set_option maxRecDepth 20000 in
theorem ggX2_perform_X2_grind : GoodIn wsX2_perform wsX2_grind := goodIn_r _ [39, 3, 40, 41, 42, 18, 43, 20, 25, 44, 45, 46, 47, 48, 49, 50, 51, 76, 77, 78, 79, 80, 81, 82, 83, 84, 85, 86, 87, 88, 89, 98, 99, 100, 101, 90, 91, 92, 93, 94, 95, 96, 97] (by decide +kernel) (by decide +kernel)
set_option maxRecDepth 20000 in
theorem gX2_perform_X2_grind : GoodIn wsX2_perform (wsV RX2 124 RX2 yX2_grind wsX2_grind) := goodIn_app (goodIn_of _ (by decide +kernel)) ggX2_perform_X2_grind
set_option maxRecDepth 20000 in
theorem ggX2_perform_X2_carry : GoodIn wsX2_perform wsX2_carry := goodIn_r _ [55, 3, 40, 41, 42, 18, 43, 20, 25, 56, 57, 58, 59, 44, 45, 46, 47, 48, 49, 50, 51, 76, 77, 78, 79, 80, 81, 82, 83, 84, 85, 86, 87, 88, 89, 90, 91, 92, 93, 94, 95, 96, 97, 98, 99, 100, 101] (by decide +kernel) (by decide +kernel)
set_option maxRecDepth 20000 in
theorem gX2_perform_X2_carry : GoodIn wsX2_perform (wsV RX2 127 RX2 yX2_carry wsX2_carry) := goodIn_app (goodIn_of _ (by decide +kernel)) ggX2_perform_X2_carry
set_option maxRecDepth 20000 in
theorem ggX2_perform_X2_share : GoodIn wsX2_perform wsX2_share := goodIn_r _ [63, 3, 40, 41, 42, 18, 43, 20, 25, 76, 77, 78, 79, 80, 81, 82, 83, 84, 85, 86, 87, 88, 89, 90, 91, 92, 93, 94, 95, 96, 97, 98, 99, 100, 101] (by decide +kernel) (by decide +kernel)
set_option maxRecDepth 20000 in
theorem gX2_perform_X2_share : GoodIn wsX2_perform (wsV RX2 130 RX2 yX2_share wsX2_share) := goodIn_app (goodIn_of _ (by decide +kernel)) ggX2_perform_X2_share
set_option maxRecDepth 20000 in
theorem ggX2_perform_X2_write : GoodIn wsX2_perform wsX2_write := goodIn_ca (goodIn_r _ [67, 3, 68, 69, 70, 12, 71, 40, 41, 42, 18, 43, 20, 25, 76, 77, 78, 79, 80, 81, 82, 83, 84, 85, 86, 87, 88, 89, 90, 91, 92, 93, 94, 95, 96, 97, 98, 99, 100, 101] (by decide +kernel) (by decide +kernel)) (goodIn_sub (fun _ h => List.mem_cons_of_mem _ (List.mem_append_right _ h)) (by decide +kernel))
set_option maxRecDepth 20000 in
theorem gX2_perform_X2_write : GoodIn wsX2_perform (wsV RX2 133 RX2 yX2_write wsX2_write) := goodIn_app (goodIn_of _ (by decide +kernel)) ggX2_perform_X2_write
set_option maxRecDepth 20000 in
theorem ggX2_perform_X1_stepBehindAgain : GoodIn wsX2_perform wsX1_stepBehindAgain := goodIn_ca (goodIn_r _ [75, 20, 27, 26, 98, 99, 100, 101] (by decide +kernel) (by decide +kernel)) (goodIn_sub (fun _ h => List.mem_cons_of_mem _ (List.mem_append_right _ h)) (by decide +kernel))
set_option maxRecDepth 20000 in
theorem gX2_perform_X1_stepBehindAgain : GoodIn wsX2_perform (wsV RX2 136 RX1 yX1_stepBehindAgain wsX1_stepBehindAgain) := goodIn_app (goodIn_of _ (by decide +kernel)) ggX2_perform_X1_stepBehindAgain
theorem dX2_perform_0 : decode cX2_perform 0 = .ok (.aload_n 0, 1) := by decide +kernel
theorem dX2_perform_1 : decode cX2_perform 1 = .ok (.getfield 29, 3) := by decide +kernel
theorem dX2_perform_4 : decode cX2_perform 4 = .ok (.iload_n 1, 1) := by decide +kernel
theorem dX2_perform_5 : decode cX2_perform 5 = .ok (.iaload, 1) := by decide +kernel
theorem dX2_perform_6 : decode cX2_perform 6 = .ok (.istore_n 2, 1) := by decide +kernel
theorem dX2_perform_7 : decode cX2_perform 7 = .ok (.aload_n 0, 1) := by decide +kernel
theorem dX2_perform_8 : decode cX2_perform 8 = .ok (.getfield 26, 3) := by decide +kernel
theorem dX2_perform_11 : decode cX2_perform 11 = .ok (.iload_n 1, 1) := by decide +kernel
theorem dX2_perform_12 : decode cX2_perform 12 = .ok (.iaload, 1) := by decide +kernel
theorem dX2_perform_13 : decode cX2_perform 13 = .ok (.tableswitch 151 0 8 #[51, 63, 72, 84, 96, 107, 151, 113, 129], 51) := by decide +kernel
theorem dX2_perform_64 : decode cX2_perform 64 = .ok (.aload_n 0, 1) := by decide +kernel
theorem dX2_perform_65 : decode cX2_perform 65 = .ok (.iload_n 2, 1) := by decide +kernel
theorem dX2_perform_66 : decode cX2_perform 66 = .ok (.bipush 8, 2) := by decide +kernel
theorem dX2_perform_68 : decode cX2_perform 68 = .ok (.invokestatic 112, 3) := by decide +kernel
theorem dX2_perform_71 : decode cX2_perform 71 = .ok (.iload_n 1, 1) := by decide +kernel
theorem dX2_perform_72 : decode cX2_perform 72 = .ok (.invokevirtual 118, 3) := by decide +kernel
theorem dX2_perform_75 : decode cX2_perform 75 = .ok (.ireturn, 1) := by decide +kernel
theorem dX2_perform_76 : decode cX2_perform 76 = .ok (.aload_n 0, 1) := by decide +kernel
theorem dX2_perform_77 : decode cX2_perform 77 = .ok (.getfield 18, 3) := by decide +kernel
theorem dX2_perform_80 : decode cX2_perform 80 = .ok (.invokevirtual 121, 3) := by decide +kernel
theorem dX2_perform_83 : decode cX2_perform 83 = .ok (.iconst 0, 1) := by decide +kernel
theorem dX2_perform_84 : decode cX2_perform 84 = .ok (.ireturn, 1) := by decide +kernel
theorem dX2_perform_85 : decode cX2_perform 85 = .ok (.aload_n 0, 1) := by decide +kernel
theorem dX2_perform_86 : decode cX2_perform 86 = .ok (.iload_n 2, 1) := by decide +kernel
theorem dX2_perform_87 : decode cX2_perform 87 = .ok (.sipush 1000, 3) := by decide +kernel
theorem dX2_perform_90 : decode cX2_perform 90 = .ok (.invokestatic 112, 3) := by decide +kernel
theorem dX2_perform_93 : decode cX2_perform 93 = .ok (.invokevirtual 124, 3) := by decide +kernel
theorem dX2_perform_96 : decode cX2_perform 96 = .ok (.ireturn, 1) := by decide +kernel
theorem dX2_perform_97 : decode cX2_perform 97 = .ok (.aload_n 0, 1) := by decide +kernel
theorem dX2_perform_98 : decode cX2_perform 98 = .ok (.iload_n 2, 1) := by decide +kernel
theorem dX2_perform_99 : decode cX2_perform 99 = .ok (.sipush 1000, 3) := by decide +kernel
theorem dX2_perform_102 : decode cX2_perform 102 = .ok (.invokestatic 112, 3) := by decide +kernel
theorem dX2_perform_105 : decode cX2_perform 105 = .ok (.invokevirtual 127, 3) := by decide +kernel
theorem dX2_perform_108 : decode cX2_perform 108 = .ok (.ireturn, 1) := by decide +kernel
theorem dX2_perform_109 : decode cX2_perform 109 = .ok (.aload_n 0, 1) := by decide +kernel
theorem dX2_perform_110 : decode cX2_perform 110 = .ok (.iload_n 2, 1) := by decide +kernel
theorem dX2_perform_111 : decode cX2_perform 111 = .ok (.bipush 10, 2) := by decide +kernel
theorem dX2_perform_113 : decode cX2_perform 113 = .ok (.invokestatic 112, 3) := by decide +kernel
theorem dX2_perform_116 : decode cX2_perform 116 = .ok (.invokevirtual 130, 3) := by decide +kernel
theorem dX2_perform_119 : decode cX2_perform 119 = .ok (.ireturn, 1) := by decide +kernel
theorem dX2_perform_120 : decode cX2_perform 120 = .ok (.aload_n 0, 1) := by decide +kernel
theorem dX2_perform_121 : decode cX2_perform 121 = .ok (.iload_n 2, 1) := by decide +kernel
theorem dX2_perform_122 : decode cX2_perform 122 = .ok (.invokevirtual 133, 3) := by decide +kernel
theorem dX2_perform_125 : decode cX2_perform 125 = .ok (.ireturn, 1) := by decide +kernel
theorem dX2_perform_126 : decode cX2_perform 126 = .ok (.aload_n 0, 1) := by decide +kernel
theorem dX2_perform_127 : decode cX2_perform 127 = .ok (.dup, 1) := by decide +kernel
theorem dX2_perform_128 : decode cX2_perform 128 = .ok (.getfield 36, 3) := by decide +kernel
theorem dX2_perform_131 : decode cX2_perform 131 = .ok (.iload_n 2, 1) := by decide +kernel
theorem dX2_perform_132 : decode cX2_perform 132 = .ok (.iconst 4, 1) := by decide +kernel
theorem dX2_perform_133 : decode cX2_perform 133 = .ok (.invokestatic 112, 3) := by decide +kernel
theorem dX2_perform_136 : decode cX2_perform 136 = .ok (.iadd, 1) := by decide +kernel
theorem dX2_perform_137 : decode cX2_perform 137 = .ok (.putfield 36, 3) := by decide +kernel
theorem dX2_perform_140 : decode cX2_perform 140 = .ok (.iconst 0, 1) := by decide +kernel
theorem dX2_perform_141 : decode cX2_perform 141 = .ok (.ireturn, 1) := by decide +kernel
theorem dX2_perform_142 : decode cX2_perform 142 = .ok (.aload_n 0, 1) := by decide +kernel
theorem dX2_perform_143 : decode cX2_perform 143 = .ok (.aload_n 0, 1) := by decide +kernel
theorem dX2_perform_144 : decode cX2_perform 144 = .ok (.getfield 18, 3) := by decide +kernel
theorem dX2_perform_147 : decode cX2_perform 147 = .ok (.iload_n 2, 1) := by decide +kernel
theorem dX2_perform_148 : decode cX2_perform 148 = .ok (.iconst 4, 1) := by decide +kernel
theorem dX2_perform_149 : decode cX2_perform 149 = .ok (.invokestatic 112, 3) := by decide +kernel
theorem dX2_perform_152 : decode cX2_perform 152 = .ok (.aload_n 0, 1) := by decide +kernel
theorem dX2_perform_153 : decode cX2_perform 153 = .ok (.getfield 36, 3) := by decide +kernel
theorem dX2_perform_156 : decode cX2_perform 156 = .ok (.invokevirtual 136, 3) := by decide +kernel
theorem dX2_perform_159 : decode cX2_perform 159 = .ok (.putfield 36, 3) := by decide +kernel
theorem dX2_perform_162 : decode cX2_perform 162 = .ok (.iconst 0, 1) := by decide +kernel
theorem dX2_perform_163 : decode cX2_perform 163 = .ok (.ireturn, 1) := by decide +kernel
theorem dX2_perform_164 : decode cX2_perform 164 = .ok (.iconst 0, 1) := by decide +kernel
theorem dX2_perform_165 : decode cX2_perform 165 = .ok (.ireturn, 1) := by decide +kernel
set_option maxRecDepth 20000 in
theorem ggX2_goIn_X1_isFull : GoodIn wsX2_goIn wsX1_isFull := goodIn_r _ [7, 8, 38, 39, 40, 41] (by decide +kernel) (by decide +kernel)
set_option maxRecDepth 20000 in
theorem gX2_goIn_X1_isFull : GoodIn wsX2_goIn (wsV RX2 139 RX1 yX1_isFull wsX1_isFull) := goodIn_app (goodIn_of _ (by decide +kernel)) ggX2_goIn_X1_isFull
set_option maxRecDepth 20000 in
theorem ggX2_goIn_X1_enter : GoodIn wsX2_goIn wsX1_enter := goodIn_ca (goodIn_r _ [12, 13, 8, 14, 15, 38, 39, 40, 41, 30, 31, 32, 33, 34, 35, 36, 37] (by decide +kernel) (by decide +kernel)) (goodIn_sub (fun _ h => List.mem_cons_of_mem _ (List.mem_append_right _ h)) (by decide +kernel))
set_option maxRecDepth 20000 in
theorem gX2_goIn_X1_enter : GoodIn wsX2_goIn (wsV RX2 142 RX1 yX1_enter wsX1_enter) := goodIn_app (goodIn_of _ (by decide +kernel)) ggX2_goIn_X1_enter
theorem dX2_goIn_0 : decode cX2_goIn 0 = .ok (.aload_n 0, 1) := by decide +kernel
theorem dX2_goIn_1 : decode cX2_goIn 1 = .ok (.getfield 18, 3) := by decide +kernel
theorem dX2_goIn_4 : decode cX2_goIn 4 = .ok (.invokevirtual 139, 3) := by decide +kernel
theorem dX2_goIn_7 : decode cX2_goIn 7 = .ok (.ifCond .eq 5, 3) := by decide +kernel
theorem dX2_goIn_10 : decode cX2_goIn 10 = .ok (.iconst 2, 1) := by decide +kernel
theorem dX2_goIn_11 : decode cX2_goIn 11 = .ok (.ireturn, 1) := by decide +kernel
theorem dX2_goIn_12 : decode cX2_goIn 12 = .ok (.aload_n 0, 1) := by decide +kernel
theorem dX2_goIn_13 : decode cX2_goIn 13 = .ok (.getfield 11, 3) := by decide +kernel
theorem dX2_goIn_16 : decode cX2_goIn 16 = .ok (.iload_n 1, 1) := by decide +kernel
theorem dX2_goIn_17 : decode cX2_goIn 17 = .ok (.aaload, 1) := by decide +kernel
theorem dX2_goIn_18 : decode cX2_goIn 18 = .ok (.getfield 65, 3) := by decide +kernel
theorem dX2_goIn_21 : decode cX2_goIn 21 = .ok (.ifCond .ne 5, 3) := by decide +kernel
theorem dX2_goIn_24 : decode cX2_goIn 24 = .ok (.iconst 1, 1) := by decide +kernel
theorem dX2_goIn_25 : decode cX2_goIn 25 = .ok (.ireturn, 1) := by decide +kernel
theorem dX2_goIn_26 : decode cX2_goIn 26 = .ok (.aload_n 0, 1) := by decide +kernel
theorem dX2_goIn_27 : decode cX2_goIn 27 = .ok (.getfield 18, 3) := by decide +kernel
theorem dX2_goIn_30 : decode cX2_goIn 30 = .ok (.aload_n 0, 1) := by decide +kernel
theorem dX2_goIn_31 : decode cX2_goIn 31 = .ok (.getfield 11, 3) := by decide +kernel
theorem dX2_goIn_34 : decode cX2_goIn 34 = .ok (.iload_n 1, 1) := by decide +kernel
theorem dX2_goIn_35 : decode cX2_goIn 35 = .ok (.aaload, 1) := by decide +kernel
theorem dX2_goIn_36 : decode cX2_goIn 36 = .ok (.iload_n 2, 1) := by decide +kernel
theorem dX2_goIn_37 : decode cX2_goIn 37 = .ok (.invokevirtual 142, 3) := by decide +kernel
theorem dX2_goIn_40 : decode cX2_goIn 40 = .ok (.iconst 0, 1) := by decide +kernel
theorem dX2_goIn_41 : decode cX2_goIn 41 = .ok (.ireturn, 1) := by decide +kernel
set_option maxRecDepth 20000 in
theorem ggX2_grind_X1_here : GoodIn wsX2_grind wsX1_here := goodIn_r _ [6, 7, 8, 31, 32, 33, 34] (by decide +kernel) (by decide +kernel)
set_option maxRecDepth 20000 in
theorem gX2_grind_X1_here : GoodIn wsX2_grind (wsV RX2 146 RX1 yX1_here wsX1_here) := goodIn_app (goodIn_of _ (by decide +kernel)) ggX2_grind_X1_here
set_option maxRecDepth 20000 in
theorem ggX2_grind_X0_receive : GoodIn wsX2_grind wsX0_receive := goodIn_r _ [13, 14, 15, 16, 35, 36, 37, 38, 39, 40, 41, 42] (by decide +kernel) (by decide +kernel)
set_option maxRecDepth 20000 in
theorem gX2_grind_X0_receive : GoodIn wsX2_grind (wsV RX2 150 RX0 yX0_receive wsX0_receive) := goodIn_app (goodIn_of _ (by decide +kernel)) ggX2_grind_X0_receive
theorem dX2_grind_0 : decode cX2_grind 0 = .ok (.aload_n 0, 1) := by decide +kernel
theorem dX2_grind_1 : decode cX2_grind 1 = .ok (.getfield 18, 3) := by decide +kernel
theorem dX2_grind_4 : decode cX2_grind 4 = .ok (.invokevirtual 146, 3) := by decide +kernel
theorem dX2_grind_7 : decode cX2_grind 7 = .ok (.astore_n 2, 1) := by decide +kernel
theorem dX2_grind_8 : decode cX2_grind 8 = .ok (.aload_n 2, 1) := by decide +kernel
theorem dX2_grind_9 : decode cX2_grind 9 = .ok (.ifnonnull 7, 3) := by decide +kernel
theorem dX2_grind_12 : decode cX2_grind 12 = .ok (.iconst 0, 1) := by decide +kernel
theorem dX2_grind_13 : decode cX2_grind 13 = .ok (.goto 8, 3) := by decide +kernel
theorem dX2_grind_16 : decode cX2_grind 16 = .ok (.aload_n 2, 1) := by decide +kernel
theorem dX2_grind_17 : decode cX2_grind 17 = .ok (.iload_n 1, 1) := by decide +kernel
theorem dX2_grind_18 : decode cX2_grind 18 = .ok (.invokevirtual 150, 3) := by decide +kernel
theorem dX2_grind_21 : decode cX2_grind 21 = .ok (.ireturn, 1) := by decide +kernel
set_option maxRecDepth 20000 in
theorem ggX2_carry_X1_here : GoodIn wsX2_carry wsX1_here := goodIn_r _ [6, 7, 8, 43, 44, 45, 46] (by decide +kernel) (by decide +kernel)
set_option maxRecDepth 20000 in
theorem gX2_carry_X1_here : GoodIn wsX2_carry (wsV RX2 146 RX1 yX1_here wsX1_here) := goodIn_app (goodIn_of _ (by decide +kernel)) ggX2_carry_X1_here
set_option maxRecDepth 20000 in
theorem ggX2_carry_X1_around : GoodIn wsX2_carry wsX1_around := goodIn_r _ [12, 7, 8, 43, 44, 45, 46] (by decide +kernel) (by decide +kernel)
set_option maxRecDepth 20000 in
theorem gX2_carry_X1_around : GoodIn wsX2_carry (wsV RX2 153 RX1 yX1_around wsX1_around) := goodIn_app (goodIn_of _ (by decide +kernel)) ggX2_carry_X1_around
set_option maxRecDepth 20000 in
theorem ggX2_carry_X0_receive : GoodIn wsX2_carry wsX0_receive := goodIn_r _ [17, 18, 19, 20, 35, 36, 37, 38, 39, 40, 41, 42] (by decide +kernel) (by decide +kernel)
set_option maxRecDepth 20000 in
theorem gX2_carry_X0_receive : GoodIn wsX2_carry (wsV RX2 150 RX0 yX0_receive wsX0_receive) := goodIn_app (goodIn_of _ (by decide +kernel)) ggX2_carry_X0_receive
theorem dX2_carry_0 : decode cX2_carry 0 = .ok (.aload_n 0, 1) := by decide +kernel
theorem dX2_carry_1 : decode cX2_carry 1 = .ok (.getfield 18, 3) := by decide +kernel
theorem dX2_carry_4 : decode cX2_carry 4 = .ok (.invokevirtual 146, 3) := by decide +kernel
theorem dX2_carry_7 : decode cX2_carry 7 = .ok (.astore_n 2, 1) := by decide +kernel
theorem dX2_carry_8 : decode cX2_carry 8 = .ok (.aload_n 0, 1) := by decide +kernel
theorem dX2_carry_9 : decode cX2_carry 9 = .ok (.getfield 18, 3) := by decide +kernel
theorem dX2_carry_12 : decode cX2_carry 12 = .ok (.invokevirtual 153, 3) := by decide +kernel
theorem dX2_carry_15 : decode cX2_carry 15 = .ok (.astore_n 3, 1) := by decide +kernel
theorem dX2_carry_16 : decode cX2_carry 16 = .ok (.aload_n 2, 1) := by decide +kernel
theorem dX2_carry_17 : decode cX2_carry 17 = .ok (.ifnull 7, 3) := by decide +kernel
theorem dX2_carry_20 : decode cX2_carry 20 = .ok (.aload_n 3, 1) := by decide +kernel
theorem dX2_carry_21 : decode cX2_carry 21 = .ok (.ifnonnull 5, 3) := by decide +kernel
theorem dX2_carry_24 : decode cX2_carry 24 = .ok (.iconst 0, 1) := by decide +kernel
theorem dX2_carry_25 : decode cX2_carry 25 = .ok (.ireturn, 1) := by decide +kernel
theorem dX2_carry_26 : decode cX2_carry 26 = .ok (.aload_n 2, 1) := by decide +kernel
theorem dX2_carry_27 : decode cX2_carry 27 = .ok (.getfield 156, 3) := by decide +kernel
theorem dX2_carry_30 : decode cX2_carry 30 = .ok (.iload_n 1, 1) := by decide +kernel
theorem dX2_carry_31 : decode cX2_carry 31 = .ok (.if_icmp .ge 5, 3) := by decide +kernel
theorem dX2_carry_34 : decode cX2_carry 34 = .ok (.iconst 4, 1) := by decide +kernel
theorem dX2_carry_35 : decode cX2_carry 35 = .ok (.ireturn, 1) := by decide +kernel
theorem dX2_carry_36 : decode cX2_carry 36 = .ok (.aload_n 2, 1) := by decide +kernel
theorem dX2_carry_37 : decode cX2_carry 37 = .ok (.dup, 1) := by decide +kernel
theorem dX2_carry_38 : decode cX2_carry 38 = .ok (.getfield 156, 3) := by decide +kernel
theorem dX2_carry_41 : decode cX2_carry 41 = .ok (.iload_n 1, 1) := by decide +kernel
theorem dX2_carry_42 : decode cX2_carry 42 = .ok (.isub, 1) := by decide +kernel
theorem dX2_carry_43 : decode cX2_carry 43 = .ok (.putfield 156, 3) := by decide +kernel
theorem dX2_carry_46 : decode cX2_carry 46 = .ok (.aload_n 3, 1) := by decide +kernel
theorem dX2_carry_47 : decode cX2_carry 47 = .ok (.iload_n 1, 1) := by decide +kernel
theorem dX2_carry_48 : decode cX2_carry 48 = .ok (.invokevirtual 150, 3) := by decide +kernel
theorem dX2_carry_51 : decode cX2_carry 51 = .ok (.ireturn, 1) := by decide +kernel
set_option maxRecDepth 20000 in
theorem ggX2_share_X1_here : GoodIn wsX2_share wsX1_here := goodIn_r _ [6, 7, 8, 31, 32, 33, 34] (by decide +kernel) (by decide +kernel)
set_option maxRecDepth 20000 in
theorem gX2_share_X1_here : GoodIn wsX2_share (wsV RX2 146 RX1 yX1_here wsX1_here) := goodIn_app (goodIn_of _ (by decide +kernel)) ggX2_share_X1_here
theorem dX2_share_0 : decode cX2_share 0 = .ok (.aload_n 0, 1) := by decide +kernel
theorem dX2_share_1 : decode cX2_share 1 = .ok (.getfield 18, 3) := by decide +kernel
theorem dX2_share_4 : decode cX2_share 4 = .ok (.invokevirtual 146, 3) := by decide +kernel
theorem dX2_share_7 : decode cX2_share 7 = .ok (.astore_n 2, 1) := by decide +kernel
theorem dX2_share_8 : decode cX2_share 8 = .ok (.aload_n 2, 1) := by decide +kernel
theorem dX2_share_9 : decode cX2_share 9 = .ok (.ifnonnull 5, 3) := by decide +kernel
theorem dX2_share_12 : decode cX2_share 12 = .ok (.iconst 0, 1) := by decide +kernel
theorem dX2_share_13 : decode cX2_share 13 = .ok (.ireturn, 1) := by decide +kernel
theorem dX2_share_14 : decode cX2_share 14 = .ok (.iload_n 1, 1) := by decide +kernel
theorem dX2_share_15 : decode cX2_share 15 = .ok (.ifCond .ne 5, 3) := by decide +kernel
theorem dX2_share_18 : decode cX2_share 18 = .ok (.iconst 5, 1) := by decide +kernel
theorem dX2_share_19 : decode cX2_share 19 = .ok (.ireturn, 1) := by decide +kernel
theorem dX2_share_20 : decode cX2_share 20 = .ok (.aload_n 2, 1) := by decide +kernel
theorem dX2_share_21 : decode cX2_share 21 = .ok (.dup, 1) := by decide +kernel
theorem dX2_share_22 : decode cX2_share 22 = .ok (.getfield 156, 3) := by decide +kernel
theorem dX2_share_25 : decode cX2_share 25 = .ok (.iload_n 1, 1) := by decide +kernel
theorem dX2_share_26 : decode cX2_share 26 = .ok (.idiv, 1) := by decide +kernel
theorem dX2_share_27 : decode cX2_share 27 = .ok (.putfield 156, 3) := by decide +kernel
theorem dX2_share_30 : decode cX2_share 30 = .ok (.iconst 0, 1) := by decide +kernel
theorem dX2_share_31 : decode cX2_share 31 = .ok (.ireturn, 1) := by decide +kernel
set_option maxRecDepth 20000 in
theorem ggX2_write_X2_isRow : GoodIn wsX2_write wsX2_isRow := goodIn_r _ [6] (by decide +kernel) (by decide +kernel)
set_option maxRecDepth 20000 in
theorem gX2_write_X2_isRow : GoodIn wsX2_write (va_wsS RX2 88 yX2_isRow wsX2_isRow) := goodIn_app (goodIn_of _ (by decide +kernel)) ggX2_write_X2_isRow
set_option maxRecDepth 20000 in
theorem ggX2_write_X1_here : GoodIn wsX2_write wsX1_here := goodIn_r _ [11, 12, 13, 36, 37, 38, 39] (by decide +kernel) (by decide +kernel)
set_option maxRecDepth 20000 in
theorem gX2_write_X1_here : GoodIn wsX2_write (wsV RX2 146 RX1 yX1_here wsX1_here) := goodIn_app (goodIn_of _ (by decide +kernel)) ggX2_write_X1_here
theorem dX2_write_0 : decode cX2_write 0 = .ok (.iload_n 1, 1) := by decide +kernel
theorem dX2_write_1 : decode cX2_write 1 = .ok (.invokestatic 88, 3) := by decide +kernel
theorem dX2_write_4 : decode cX2_write 4 = .ok (.ifCond .ne 6, 3) := by decide +kernel
theorem dX2_write_7 : decode cX2_write 7 = .ok (.bipush 6, 2) := by decide +kernel
theorem dX2_write_9 : decode cX2_write 9 = .ok (.ireturn, 1) := by decide +kernel
theorem dX2_write_10 : decode cX2_write 10 = .ok (.aload_n 0, 1) := by decide +kernel
theorem dX2_write_11 : decode cX2_write 11 = .ok (.getfield 18, 3) := by decide +kernel
theorem dX2_write_14 : decode cX2_write 14 = .ok (.invokevirtual 146, 3) := by decide +kernel
theorem dX2_write_17 : decode cX2_write 17 = .ok (.astore_n 2, 1) := by decide +kernel
theorem dX2_write_18 : decode cX2_write 18 = .ok (.aload_n 0, 1) := by decide +kernel
theorem dX2_write_19 : decode cX2_write 19 = .ok (.getfield 22, 3) := by decide +kernel
theorem dX2_write_22 : decode cX2_write 22 = .ok (.iload_n 1, 1) := by decide +kernel
theorem dX2_write_23 : decode cX2_write 23 = .ok (.aload_n 2, 1) := by decide +kernel
theorem dX2_write_24 : decode cX2_write 24 = .ok (.ifnonnull 7, 3) := by decide +kernel
theorem dX2_write_27 : decode cX2_write 27 = .ok (.iconst (-1), 1) := by decide +kernel
theorem dX2_write_28 : decode cX2_write 28 = .ok (.goto 7, 3) := by decide +kernel
theorem dX2_write_31 : decode cX2_write 31 = .ok (.aload_n 2, 1) := by decide +kernel
theorem dX2_write_32 : decode cX2_write 32 = .ok (.getfield 156, 3) := by decide +kernel
theorem dX2_write_35 : decode cX2_write 35 = .ok (.iastore, 1) := by decide +kernel
theorem dX2_write_36 : decode cX2_write 36 = .ok (.iconst 0, 1) := by decide +kernel
theorem dX2_write_37 : decode cX2_write 37 = .ok (.ireturn, 1) := by decide +kernel
