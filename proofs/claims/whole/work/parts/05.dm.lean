theorem dX5_init_0 : decode cX5_init 0 = .ok (.aload_n 0, 1) := by decide +kernel
theorem dX5_init_1 : decode cX5_init 1 = .ok (.invokespecial 1, 3) := by decide +kernel
theorem dX5_init_4 : decode cX5_init 4 = .ok (.aload_n 0, 1) := by decide +kernel
theorem dX5_init_5 : decode cX5_init 5 = .ok (.bipush 6, 2) := by decide +kernel
theorem dX5_init_7 : decode cX5_init 7 = .ok (.newarray .int, 2) := by decide +kernel
theorem dX5_init_9 : decode cX5_init 9 = .ok (.putfield 7, 3) := by decide +kernel
theorem dX5_init_12 : decode cX5_init 12 = .ok (.aload_n 0, 1) := by decide +kernel
theorem dX5_init_13 : decode cX5_init 13 = .ok (.bipush 6, 2) := by decide +kernel
theorem dX5_init_15 : decode cX5_init 15 = .ok (.newarray .int, 2) := by decide +kernel
theorem dX5_init_17 : decode cX5_init 17 = .ok (.putfield 13, 3) := by decide +kernel
theorem dX5_init_20 : decode cX5_init 20 = .ok (.aload_n 0, 1) := by decide +kernel
theorem dX5_init_21 : decode cX5_init 21 = .ok (.sipush 288, 3) := by decide +kernel
theorem dX5_init_24 : decode cX5_init 24 = .ok (.newarray .int, 2) := by decide +kernel
theorem dX5_init_26 : decode cX5_init 26 = .ok (.putfield 16, 3) := by decide +kernel
theorem dX5_init_29 : decode cX5_init 29 = .ok (.aload_n 0, 1) := by decide +kernel
theorem dX5_init_30 : decode cX5_init 30 = .ok (.bipush 72, 2) := by decide +kernel
theorem dX5_init_32 : decode cX5_init 32 = .ok (.newarray .boolean, 2) := by decide +kernel
theorem dX5_init_34 : decode cX5_init 34 = .ok (.putfield 19, 3) := by decide +kernel
theorem dX5_init_37 : decode cX5_init 37 = .ok (.aload_n 0, 1) := by decide +kernel
theorem dX5_init_38 : decode cX5_init 38 = .ok (.bipush 6, 2) := by decide +kernel
theorem dX5_init_40 : decode cX5_init 40 = .ok (.newarray .boolean, 2) := by decide +kernel
theorem dX5_init_42 : decode cX5_init 42 = .ok (.putfield 23, 3) := by decide +kernel
theorem dX5_init_45 : decode cX5_init 45 = .ok (.aload_n 0, 1) := by decide +kernel
theorem dX5_init_46 : decode cX5_init 46 = .ok (.bipush 13, 2) := by decide +kernel
theorem dX5_init_48 : decode cX5_init 48 = .ok (.newarray .int, 2) := by decide +kernel
theorem dX5_init_50 : decode cX5_init 50 = .ok (.putfield 26, 3) := by decide +kernel
theorem dX5_init_53 : decode cX5_init 53 = .ok (.aload_n 0, 1) := by decide +kernel
theorem dX5_init_54 : decode cX5_init 54 = .ok (.bipush 13, 2) := by decide +kernel
theorem dX5_init_56 : decode cX5_init 56 = .ok (.newarray .int, 2) := by decide +kernel
theorem dX5_init_58 : decode cX5_init 58 = .ok (.putfield 29, 3) := by decide +kernel
theorem dX5_init_61 : decode cX5_init 61 = .ok (.aload_n 0, 1) := by decide +kernel
theorem dX5_init_62 : decode cX5_init 62 = .ok (.sipush 624, 3) := by decide +kernel
theorem dX5_init_65 : decode cX5_init 65 = .ok (.newarray .long, 2) := by decide +kernel
theorem dX5_init_67 : decode cX5_init 67 = .ok (.putfield 32, 3) := by decide +kernel
theorem dX5_init_70 : decode cX5_init 70 = .ok (.aload_n 0, 1) := by decide +kernel
theorem dX5_init_71 : decode cX5_init 71 = .ok (.bipush 48, 2) := by decide +kernel
theorem dX5_init_73 : decode cX5_init 73 = .ok (.newarray .long, 2) := by decide +kernel
theorem dX5_init_75 : decode cX5_init 75 = .ok (.putfield 36, 3) := by decide +kernel
theorem dX5_init_78 : decode cX5_init 78 = .ok (.aload_n 0, 1) := by decide +kernel
theorem dX5_init_79 : decode cX5_init 79 = .ok (.bipush 12, 2) := by decide +kernel
theorem dX5_init_81 : decode cX5_init 81 = .ok (.newarray .int, 2) := by decide +kernel
theorem dX5_init_83 : decode cX5_init 83 = .ok (.putfield 39, 3) := by decide +kernel
theorem dX5_init_86 : decode cX5_init 86 = .ok (.aload_n 0, 1) := by decide +kernel
theorem dX5_init_87 : decode cX5_init 87 = .ok (.bipush 12, 2) := by decide +kernel
theorem dX5_init_89 : decode cX5_init 89 = .ok (.newarray .int, 2) := by decide +kernel
theorem dX5_init_91 : decode cX5_init 91 = .ok (.putfield 42, 3) := by decide +kernel
theorem dX5_init_94 : decode cX5_init 94 = .ok (.return_, 1) := by decide +kernel
theorem dX5_thrown_0 : decode cX5_thrown 0 = .ok (.aload_n 0, 1) := by decide +kernel
theorem dX5_thrown_1 : decode cX5_thrown 1 = .ok (.getfield 45, 3) := by decide +kernel
theorem dX5_thrown_4 : decode cX5_thrown 4 = .ok (.ireturn, 1) := by decide +kernel
theorem dX5_right_0 : decode cX5_right 0 = .ok (.aload_n 0, 1) := by decide +kernel
theorem dX5_right_1 : decode cX5_right 1 = .ok (.getfield 45, 3) := by decide +kernel
theorem dX5_right_4 : decode cX5_right 4 = .ok (.ifCond .ne 12, 3) := by decide +kernel
theorem dX5_right_7 : decode cX5_right 7 = .ok (.iload_n 1, 1) := by decide +kernel
theorem dX5_right_8 : decode cX5_right 8 = .ok (.ifCond .ne 8, 3) := by decide +kernel
theorem dX5_right_11 : decode cX5_right 11 = .ok (.aload_n 0, 1) := by decide +kernel
theorem dX5_right_12 : decode cX5_right 12 = .ok (.iload_n 2, 1) := by decide +kernel
theorem dX5_right_13 : decode cX5_right 13 = .ok (.putfield 45, 3) := by decide +kernel
theorem dX5_right_16 : decode cX5_right 16 = .ok (.aload_n 0, 1) := by decide +kernel
theorem dX5_right_17 : decode cX5_right 17 = .ok (.getfield 45, 3) := by decide +kernel
theorem dX5_right_20 : decode cX5_right 20 = .ok (.ifCond .ne 7, 3) := by decide +kernel
theorem dX5_right_23 : decode cX5_right 23 = .ok (.iconst 1, 1) := by decide +kernel
theorem dX5_right_24 : decode cX5_right 24 = .ok (.goto 4, 3) := by decide +kernel
theorem dX5_right_27 : decode cX5_right 27 = .ok (.iconst 0, 1) := by decide +kernel
theorem dX5_right_28 : decode cX5_right 28 = .ok (.ireturn, 1) := by decide +kernel
set_option maxRecDepth 20000 in
theorem ggX5_isNet_X5_right : GoodIn wsX5_isNet wsX5_right := goodIn_r _ [7, 1, 8, 9, 10, 11, 12, 13, 14, 15, 16, 17, 18, 19, 20, 21] (by decide +kernel) (by decide +kernel)
set_option maxRecDepth 20000 in
theorem gX5_isNet_X5_right : GoodIn wsX5_isNet (wsV RX5 52 RX5 yX5_right wsX5_right) := goodIn_app (goodIn_of _ (by decide +kernel)) ggX5_isNet_X5_right
theorem dX5_isNet_0 : decode cX5_isNet 0 = .ok (.aload_n 0, 1) := by decide +kernel
theorem dX5_isNet_1 : decode cX5_isNet 1 = .ok (.iconst 0, 1) := by decide +kernel
theorem dX5_isNet_2 : decode cX5_isNet 2 = .ok (.putfield 45, 3) := by decide +kernel
theorem dX5_isNet_5 : decode cX5_isNet 5 = .ok (.aload_n 0, 1) := by decide +kernel
theorem dX5_isNet_6 : decode cX5_isNet 6 = .ok (.iload_n 1, 1) := by decide +kernel
theorem dX5_isNet_7 : decode cX5_isNet 7 = .ok (.ifCond .lt 15, 3) := by decide +kernel
theorem dX5_isNet_10 : decode cX5_isNet 10 = .ok (.iload_n 1, 1) := by decide +kernel
theorem dX5_isNet_11 : decode cX5_isNet 11 = .ok (.aload_n 0, 1) := by decide +kernel
theorem dX5_isNet_12 : decode cX5_isNet 12 = .ok (.getfield 49, 3) := by decide +kernel
theorem dX5_isNet_15 : decode cX5_isNet 15 = .ok (.if_icmp .ge 7, 3) := by decide +kernel
theorem dX5_isNet_18 : decode cX5_isNet 18 = .ok (.iconst 1, 1) := by decide +kernel
theorem dX5_isNet_19 : decode cX5_isNet 19 = .ok (.goto 4, 3) := by decide +kernel
theorem dX5_isNet_22 : decode cX5_isNet 22 = .ok (.iconst 0, 1) := by decide +kernel
theorem dX5_isNet_23 : decode cX5_isNet 23 = .ok (.iconst 1, 1) := by decide +kernel
theorem dX5_isNet_24 : decode cX5_isNet 24 = .ok (.invokevirtual 52, 3) := by decide +kernel
theorem dX5_isNet_27 : decode cX5_isNet 27 = .ok (.ireturn, 1) := by decide +kernel
set_option maxRecDepth 20000 in
theorem ggX5_isDoor_X5_right : GoodIn wsX5_isDoor wsX5_right := goodIn_r _ [7, 8, 9, 10, 11, 12, 13, 14, 15, 16, 17, 18, 19, 20, 21, 22] (by decide +kernel) (by decide +kernel)
set_option maxRecDepth 20000 in
theorem gX5_isDoor_X5_right : GoodIn wsX5_isDoor (wsV RX5 52 RX5 yX5_right wsX5_right) := goodIn_app (goodIn_of _ (by decide +kernel)) ggX5_isDoor_X5_right
theorem dX5_isDoor_0 : decode cX5_isDoor 0 = .ok (.aload_n 0, 1) := by decide +kernel
theorem dX5_isDoor_1 : decode cX5_isDoor 1 = .ok (.iload_n 2, 1) := by decide +kernel
theorem dX5_isDoor_2 : decode cX5_isDoor 2 = .ok (.ifCond .lt 31, 3) := by decide +kernel
theorem dX5_isDoor_5 : decode cX5_isDoor 5 = .ok (.iload_n 2, 1) := by decide +kernel
theorem dX5_isDoor_6 : decode cX5_isDoor 6 = .ok (.aload_n 0, 1) := by decide +kernel
theorem dX5_isDoor_7 : decode cX5_isDoor 7 = .ok (.getfield 7, 3) := by decide +kernel
theorem dX5_isDoor_10 : decode cX5_isDoor 10 = .ok (.iload_n 1, 1) := by decide +kernel
theorem dX5_isDoor_11 : decode cX5_isDoor 11 = .ok (.iaload, 1) := by decide +kernel
theorem dX5_isDoor_12 : decode cX5_isDoor 12 = .ok (.if_icmp .ge 21, 3) := by decide +kernel
theorem dX5_isDoor_15 : decode cX5_isDoor 15 = .ok (.iload_n 3, 1) := by decide +kernel
theorem dX5_isDoor_16 : decode cX5_isDoor 16 = .ok (.ifCond .lt 17, 3) := by decide +kernel
theorem dX5_isDoor_19 : decode cX5_isDoor 19 = .ok (.iload_n 3, 1) := by decide +kernel
theorem dX5_isDoor_20 : decode cX5_isDoor 20 = .ok (.aload_n 0, 1) := by decide +kernel
theorem dX5_isDoor_21 : decode cX5_isDoor 21 = .ok (.getfield 13, 3) := by decide +kernel
theorem dX5_isDoor_24 : decode cX5_isDoor 24 = .ok (.iload_n 1, 1) := by decide +kernel
theorem dX5_isDoor_25 : decode cX5_isDoor 25 = .ok (.iaload, 1) := by decide +kernel
theorem dX5_isDoor_26 : decode cX5_isDoor 26 = .ok (.if_icmp .ge 7, 3) := by decide +kernel
theorem dX5_isDoor_29 : decode cX5_isDoor 29 = .ok (.iconst 1, 1) := by decide +kernel
theorem dX5_isDoor_30 : decode cX5_isDoor 30 = .ok (.goto 4, 3) := by decide +kernel
theorem dX5_isDoor_33 : decode cX5_isDoor 33 = .ok (.iconst 0, 1) := by decide +kernel
theorem dX5_isDoor_34 : decode cX5_isDoor 34 = .ok (.iconst 1, 1) := by decide +kernel
theorem dX5_isDoor_35 : decode cX5_isDoor 35 = .ok (.invokevirtual 52, 3) := by decide +kernel
theorem dX5_isDoor_38 : decode cX5_isDoor 38 = .ok (.ireturn, 1) := by decide +kernel
theorem dX5_net_0 : decode cX5_net 0 = .ok (.aload_n 0, 1) := by decide +kernel
theorem dX5_net_1 : decode cX5_net 1 = .ok (.iconst 0, 1) := by decide +kernel
theorem dX5_net_2 : decode cX5_net 2 = .ok (.putfield 45, 3) := by decide +kernel
theorem dX5_net_5 : decode cX5_net 5 = .ok (.aload_n 0, 1) := by decide +kernel
theorem dX5_net_6 : decode cX5_net 6 = .ok (.getfield 49, 3) := by decide +kernel
theorem dX5_net_9 : decode cX5_net 9 = .ok (.bipush 6, 2) := by decide +kernel
theorem dX5_net_11 : decode cX5_net 11 = .ok (.if_icmp .eq 24, 3) := by decide +kernel
theorem dX5_net_14 : decode cX5_net 14 = .ok (.iload_n 1, 1) := by decide +kernel
theorem dX5_net_15 : decode cX5_net 15 = .ok (.iconst 1, 1) := by decide +kernel
theorem dX5_net_16 : decode cX5_net 16 = .ok (.if_icmp .lt 19, 3) := by decide +kernel
theorem dX5_net_19 : decode cX5_net 19 = .ok (.iload_n 1, 1) := by decide +kernel
theorem dX5_net_20 : decode cX5_net 20 = .ok (.bipush 12, 2) := by decide +kernel
theorem dX5_net_22 : decode cX5_net 22 = .ok (.if_icmp .gt 13, 3) := by decide +kernel
theorem dX5_net_25 : decode cX5_net 25 = .ok (.iload_n 2, 1) := by decide +kernel
theorem dX5_net_26 : decode cX5_net 26 = .ok (.iconst 2, 1) := by decide +kernel
theorem dX5_net_27 : decode cX5_net 27 = .ok (.if_icmp .lt 8, 3) := by decide +kernel
theorem dX5_net_30 : decode cX5_net 30 = .ok (.iload_n 2, 1) := by decide +kernel
theorem dX5_net_31 : decode cX5_net 31 = .ok (.iconst 4, 1) := by decide +kernel
theorem dX5_net_32 : decode cX5_net 32 = .ok (.if_icmp .le 5, 3) := by decide +kernel
theorem dX5_net_35 : decode cX5_net 35 = .ok (.iconst (-1), 1) := by decide +kernel
theorem dX5_net_36 : decode cX5_net 36 = .ok (.ireturn, 1) := by decide +kernel
theorem dX5_net_37 : decode cX5_net 37 = .ok (.aload_n 0, 1) := by decide +kernel
theorem dX5_net_38 : decode cX5_net 38 = .ok (.getfield 7, 3) := by decide +kernel
theorem dX5_net_41 : decode cX5_net 41 = .ok (.aload_n 0, 1) := by decide +kernel
theorem dX5_net_42 : decode cX5_net 42 = .ok (.getfield 49, 3) := by decide +kernel
theorem dX5_net_45 : decode cX5_net 45 = .ok (.iload_n 1, 1) := by decide +kernel
theorem dX5_net_46 : decode cX5_net 46 = .ok (.iastore, 1) := by decide +kernel
theorem dX5_net_47 : decode cX5_net 47 = .ok (.aload_n 0, 1) := by decide +kernel
theorem dX5_net_48 : decode cX5_net 48 = .ok (.getfield 13, 3) := by decide +kernel
theorem dX5_net_51 : decode cX5_net 51 = .ok (.aload_n 0, 1) := by decide +kernel
theorem dX5_net_52 : decode cX5_net 52 = .ok (.getfield 49, 3) := by decide +kernel
theorem dX5_net_55 : decode cX5_net 55 = .ok (.iload_n 2, 1) := by decide +kernel
theorem dX5_net_56 : decode cX5_net 56 = .ok (.iastore, 1) := by decide +kernel
theorem dX5_net_57 : decode cX5_net 57 = .ok (.iconst 0, 1) := by decide +kernel
theorem dX5_net_58 : decode cX5_net 58 = .ok (.istore_n 3, 1) := by decide +kernel
theorem dX5_net_59 : decode cX5_net 59 = .ok (.iload_n 3, 1) := by decide +kernel
theorem dX5_net_60 : decode cX5_net 60 = .ok (.bipush 48, 2) := by decide +kernel
theorem dX5_net_62 : decode cX5_net 62 = .ok (.if_icmp .ge 24, 3) := by decide +kernel
theorem dX5_net_65 : decode cX5_net 65 = .ok (.aload_n 0, 1) := by decide +kernel
theorem dX5_net_66 : decode cX5_net 66 = .ok (.getfield 16, 3) := by decide +kernel
theorem dX5_net_69 : decode cX5_net 69 = .ok (.bipush 48, 2) := by decide +kernel
theorem dX5_net_71 : decode cX5_net 71 = .ok (.aload_n 0, 1) := by decide +kernel
theorem dX5_net_72 : decode cX5_net 72 = .ok (.getfield 49, 3) := by decide +kernel
theorem dX5_net_75 : decode cX5_net 75 = .ok (.imul, 1) := by decide +kernel
theorem dX5_net_76 : decode cX5_net 76 = .ok (.iload_n 3, 1) := by decide +kernel
theorem dX5_net_77 : decode cX5_net 77 = .ok (.iadd, 1) := by decide +kernel
theorem dX5_net_78 : decode cX5_net 78 = .ok (.iload_n 3, 1) := by decide +kernel
theorem dX5_net_79 : decode cX5_net 79 = .ok (.iastore, 1) := by decide +kernel
theorem dX5_net_80 : decode cX5_net 80 = .ok (.iinc 3 1, 3) := by decide +kernel
theorem dX5_net_83 : decode cX5_net 83 = .ok (.goto (-24), 3) := by decide +kernel
theorem dX5_net_86 : decode cX5_net 86 = .ok (.aload_n 0, 1) := by decide +kernel
theorem dX5_net_87 : decode cX5_net 87 = .ok (.dup, 1) := by decide +kernel
theorem dX5_net_88 : decode cX5_net 88 = .ok (.getfield 49, 3) := by decide +kernel
theorem dX5_net_91 : decode cX5_net 91 = .ok (.iconst 1, 1) := by decide +kernel
theorem dX5_net_92 : decode cX5_net 92 = .ok (.iadd, 1) := by decide +kernel
theorem dX5_net_93 : decode cX5_net 93 = .ok (.putfield 49, 3) := by decide +kernel
theorem dX5_net_96 : decode cX5_net 96 = .ok (.aload_n 0, 1) := by decide +kernel
theorem dX5_net_97 : decode cX5_net 97 = .ok (.getfield 49, 3) := by decide +kernel
theorem dX5_net_100 : decode cX5_net 100 = .ok (.iconst 1, 1) := by decide +kernel
theorem dX5_net_101 : decode cX5_net 101 = .ok (.isub, 1) := by decide +kernel
theorem dX5_net_102 : decode cX5_net 102 = .ok (.ireturn, 1) := by decide +kernel
set_option maxRecDepth 20000 in
theorem ggX5_join_X5_isNet : GoodIn wsX5_join wsX5_isNet := goodIn_r _ [7, 8, 9, 10, 11, 12, 6, 13, 20, 21, 22, 23, 24, 25, 26, 27, 28, 29, 30, 31, 32, 33] (by decide +kernel) (by decide +kernel)
set_option maxRecDepth 20000 in
theorem gX5_join_X5_isNet : GoodIn wsX5_join (wsV RX5 56 RX5 yX5_isNet wsX5_isNet) := goodIn_app (goodIn_of _ (by decide +kernel)) ggX5_join_X5_isNet
set_option maxRecDepth 20000 in
theorem ggX5_join_X5_isDoor : GoodIn wsX5_join wsX5_isDoor := goodIn_r _ [17, 18, 19, 10, 11, 12, 6, 13, 8, 20, 21, 22, 23, 24, 25, 26, 27, 28, 29, 30, 31, 32, 33] (by decide +kernel) (by decide +kernel)
set_option maxRecDepth 20000 in
theorem gX5_join_X5_isDoor : GoodIn wsX5_join (wsV RX5 60 RX5 yX5_isDoor wsX5_isDoor) := goodIn_app (goodIn_of _ (by decide +kernel)) ggX5_join_X5_isDoor
theorem dX5_join_0 : decode cX5_join 0 = .ok (.aload_n 0, 1) := by decide +kernel
theorem dX5_join_1 : decode cX5_join 1 = .ok (.iload_n 1, 1) := by decide +kernel
theorem dX5_join_2 : decode cX5_join 2 = .ok (.invokevirtual 56, 3) := by decide +kernel
theorem dX5_join_5 : decode cX5_join 5 = .ok (.ifCond .eq 34, 3) := by decide +kernel
theorem dX5_join_8 : decode cX5_join 8 = .ok (.aload_n 0, 1) := by decide +kernel
theorem dX5_join_9 : decode cX5_join 9 = .ok (.iload_n 1, 1) := by decide +kernel
theorem dX5_join_10 : decode cX5_join 10 = .ok (.iload_n 2, 1) := by decide +kernel
theorem dX5_join_11 : decode cX5_join 11 = .ok (.iload_n 3, 1) := by decide +kernel
theorem dX5_join_12 : decode cX5_join 12 = .ok (.invokevirtual 60, 3) := by decide +kernel
theorem dX5_join_15 : decode cX5_join 15 = .ok (.ifCond .eq 24, 3) := by decide +kernel
theorem dX5_join_18 : decode cX5_join 18 = .ok (.aload_n 0, 1) := by decide +kernel
theorem dX5_join_19 : decode cX5_join 19 = .ok (.iload_n 1, 1) := by decide +kernel
theorem dX5_join_20 : decode cX5_join 20 = .ok (.iload 4, 2) := by decide +kernel
theorem dX5_join_22 : decode cX5_join 22 = .ok (.iload 5, 2) := by decide +kernel
theorem dX5_join_24 : decode cX5_join 24 = .ok (.invokevirtual 60, 3) := by decide +kernel
theorem dX5_join_27 : decode cX5_join 27 = .ok (.ifCond .eq 12, 3) := by decide +kernel
theorem dX5_join_30 : decode cX5_join 30 = .ok (.aload_n 0, 1) := by decide +kernel
theorem dX5_join_31 : decode cX5_join 31 = .ok (.getfield 23, 3) := by decide +kernel
theorem dX5_join_34 : decode cX5_join 34 = .ok (.iload_n 1, 1) := by decide +kernel
theorem dX5_join_35 : decode cX5_join 35 = .ok (.baload, 1) := by decide +kernel
theorem dX5_join_36 : decode cX5_join 36 = .ok (.ifCond .eq 5, 3) := by decide +kernel
theorem dX5_join_39 : decode cX5_join 39 = .ok (.iconst 0, 1) := by decide +kernel
theorem dX5_join_40 : decode cX5_join 40 = .ok (.ireturn, 1) := by decide +kernel
theorem dX5_join_41 : decode cX5_join 41 = .ok (.iconst 4, 1) := by decide +kernel
theorem dX5_join_42 : decode cX5_join 42 = .ok (.iload_n 2, 1) := by decide +kernel
theorem dX5_join_43 : decode cX5_join 43 = .ok (.imul, 1) := by decide +kernel
theorem dX5_join_44 : decode cX5_join 44 = .ok (.iload_n 3, 1) := by decide +kernel
theorem dX5_join_45 : decode cX5_join 45 = .ok (.iadd, 1) := by decide +kernel
theorem dX5_join_46 : decode cX5_join 46 = .ok (.istore 6, 2) := by decide +kernel
theorem dX5_join_48 : decode cX5_join 48 = .ok (.iconst 4, 1) := by decide +kernel
theorem dX5_join_49 : decode cX5_join 49 = .ok (.iload 4, 2) := by decide +kernel
theorem dX5_join_51 : decode cX5_join 51 = .ok (.imul, 1) := by decide +kernel
theorem dX5_join_52 : decode cX5_join 52 = .ok (.iload 5, 2) := by decide +kernel
theorem dX5_join_54 : decode cX5_join 54 = .ok (.iadd, 1) := by decide +kernel
theorem dX5_join_55 : decode cX5_join 55 = .ok (.istore 7, 2) := by decide +kernel
theorem dX5_join_57 : decode cX5_join 57 = .ok (.aload_n 0, 1) := by decide +kernel
theorem dX5_join_58 : decode cX5_join 58 = .ok (.getfield 16, 3) := by decide +kernel
theorem dX5_join_61 : decode cX5_join 61 = .ok (.bipush 48, 2) := by decide +kernel
theorem dX5_join_63 : decode cX5_join 63 = .ok (.iload_n 1, 1) := by decide +kernel
theorem dX5_join_64 : decode cX5_join 64 = .ok (.imul, 1) := by decide +kernel
theorem dX5_join_65 : decode cX5_join 65 = .ok (.iload 6, 2) := by decide +kernel
theorem dX5_join_67 : decode cX5_join 67 = .ok (.iadd, 1) := by decide +kernel
theorem dX5_join_68 : decode cX5_join 68 = .ok (.iaload, 1) := by decide +kernel
theorem dX5_join_69 : decode cX5_join 69 = .ok (.istore 8, 2) := by decide +kernel
theorem dX5_join_71 : decode cX5_join 71 = .ok (.aload_n 0, 1) := by decide +kernel
theorem dX5_join_72 : decode cX5_join 72 = .ok (.getfield 16, 3) := by decide +kernel
theorem dX5_join_75 : decode cX5_join 75 = .ok (.bipush 48, 2) := by decide +kernel
theorem dX5_join_77 : decode cX5_join 77 = .ok (.iload_n 1, 1) := by decide +kernel
theorem dX5_join_78 : decode cX5_join 78 = .ok (.imul, 1) := by decide +kernel
theorem dX5_join_79 : decode cX5_join 79 = .ok (.iload 7, 2) := by decide +kernel
theorem dX5_join_81 : decode cX5_join 81 = .ok (.iadd, 1) := by decide +kernel
theorem dX5_join_82 : decode cX5_join 82 = .ok (.iaload, 1) := by decide +kernel
theorem dX5_join_83 : decode cX5_join 83 = .ok (.istore 9, 2) := by decide +kernel
theorem dX5_join_85 : decode cX5_join 85 = .ok (.aload_n 0, 1) := by decide +kernel
theorem dX5_join_86 : decode cX5_join 86 = .ok (.getfield 16, 3) := by decide +kernel
theorem dX5_join_89 : decode cX5_join 89 = .ok (.bipush 48, 2) := by decide +kernel
theorem dX5_join_91 : decode cX5_join 91 = .ok (.iload_n 1, 1) := by decide +kernel
theorem dX5_join_92 : decode cX5_join 92 = .ok (.imul, 1) := by decide +kernel
theorem dX5_join_93 : decode cX5_join 93 = .ok (.iload 8, 2) := by decide +kernel
theorem dX5_join_95 : decode cX5_join 95 = .ok (.iadd, 1) := by decide +kernel
theorem dX5_join_96 : decode cX5_join 96 = .ok (.iload 8, 2) := by decide +kernel
theorem dX5_join_98 : decode cX5_join 98 = .ok (.iastore, 1) := by decide +kernel
theorem dX5_join_99 : decode cX5_join 99 = .ok (.aload_n 0, 1) := by decide +kernel
theorem dX5_join_100 : decode cX5_join 100 = .ok (.getfield 16, 3) := by decide +kernel
theorem dX5_join_103 : decode cX5_join 103 = .ok (.bipush 48, 2) := by decide +kernel
theorem dX5_join_105 : decode cX5_join 105 = .ok (.iload_n 1, 1) := by decide +kernel
theorem dX5_join_106 : decode cX5_join 106 = .ok (.imul, 1) := by decide +kernel
theorem dX5_join_107 : decode cX5_join 107 = .ok (.iload 9, 2) := by decide +kernel
theorem dX5_join_109 : decode cX5_join 109 = .ok (.iadd, 1) := by decide +kernel
theorem dX5_join_110 : decode cX5_join 110 = .ok (.iload 9, 2) := by decide +kernel
theorem dX5_join_112 : decode cX5_join 112 = .ok (.iastore, 1) := by decide +kernel
theorem dX5_join_113 : decode cX5_join 113 = .ok (.aload_n 0, 1) := by decide +kernel
theorem dX5_join_114 : decode cX5_join 114 = .ok (.getfield 16, 3) := by decide +kernel
theorem dX5_join_117 : decode cX5_join 117 = .ok (.bipush 48, 2) := by decide +kernel
theorem dX5_join_119 : decode cX5_join 119 = .ok (.iload_n 1, 1) := by decide +kernel
theorem dX5_join_120 : decode cX5_join 120 = .ok (.imul, 1) := by decide +kernel
theorem dX5_join_121 : decode cX5_join 121 = .ok (.iload 6, 2) := by decide +kernel
theorem dX5_join_123 : decode cX5_join 123 = .ok (.iadd, 1) := by decide +kernel
theorem dX5_join_124 : decode cX5_join 124 = .ok (.iload 7, 2) := by decide +kernel
theorem dX5_join_126 : decode cX5_join 126 = .ok (.iastore, 1) := by decide +kernel
theorem dX5_join_127 : decode cX5_join 127 = .ok (.aload_n 0, 1) := by decide +kernel
theorem dX5_join_128 : decode cX5_join 128 = .ok (.getfield 16, 3) := by decide +kernel
theorem dX5_join_131 : decode cX5_join 131 = .ok (.bipush 48, 2) := by decide +kernel
theorem dX5_join_133 : decode cX5_join 133 = .ok (.iload_n 1, 1) := by decide +kernel
theorem dX5_join_134 : decode cX5_join 134 = .ok (.imul, 1) := by decide +kernel
theorem dX5_join_135 : decode cX5_join 135 = .ok (.iload 7, 2) := by decide +kernel
theorem dX5_join_137 : decode cX5_join 137 = .ok (.iadd, 1) := by decide +kernel
theorem dX5_join_138 : decode cX5_join 138 = .ok (.iload 6, 2) := by decide +kernel
theorem dX5_join_140 : decode cX5_join 140 = .ok (.iastore, 1) := by decide +kernel
theorem dX5_join_141 : decode cX5_join 141 = .ok (.iconst 1, 1) := by decide +kernel
theorem dX5_join_142 : decode cX5_join 142 = .ok (.ireturn, 1) := by decide +kernel
set_option maxRecDepth 20000 in
theorem ggX5_leads_X5_isNet : GoodIn wsX5_leads wsX5_isNet := goodIn_r _ [6, 7, 8, 9, 10, 11, 5, 12, 19, 20, 21, 22, 23, 24, 25, 26, 27, 28, 29, 30, 31, 32] (by decide +kernel) (by decide +kernel)
set_option maxRecDepth 20000 in
theorem gX5_leads_X5_isNet : GoodIn wsX5_leads (wsV RX5 56 RX5 yX5_isNet wsX5_isNet) := goodIn_app (goodIn_of _ (by decide +kernel)) ggX5_leads_X5_isNet
set_option maxRecDepth 20000 in
theorem ggX5_leads_X5_isDoor : GoodIn wsX5_leads wsX5_isDoor := goodIn_r _ [16, 17, 18, 9, 10, 11, 5, 12, 7, 19, 20, 21, 22, 23, 24, 25, 26, 27, 28, 29, 30, 31, 32] (by decide +kernel) (by decide +kernel)
set_option maxRecDepth 20000 in
theorem gX5_leads_X5_isDoor : GoodIn wsX5_leads (wsV RX5 60 RX5 yX5_isDoor wsX5_isDoor) := goodIn_app (goodIn_of _ (by decide +kernel)) ggX5_leads_X5_isDoor
theorem dX5_leads_0 : decode cX5_leads 0 = .ok (.aload_n 0, 1) := by decide +kernel
theorem dX5_leads_1 : decode cX5_leads 1 = .ok (.iload_n 1, 1) := by decide +kernel
theorem dX5_leads_2 : decode cX5_leads 2 = .ok (.invokevirtual 56, 3) := by decide +kernel
theorem dX5_leads_5 : decode cX5_leads 5 = .ok (.ifCond .eq 31, 3) := by decide +kernel
theorem dX5_leads_8 : decode cX5_leads 8 = .ok (.aload_n 0, 1) := by decide +kernel
theorem dX5_leads_9 : decode cX5_leads 9 = .ok (.iload_n 1, 1) := by decide +kernel
theorem dX5_leads_10 : decode cX5_leads 10 = .ok (.iload_n 2, 1) := by decide +kernel
theorem dX5_leads_11 : decode cX5_leads 11 = .ok (.iload_n 3, 1) := by decide +kernel
theorem dX5_leads_12 : decode cX5_leads 12 = .ok (.invokevirtual 60, 3) := by decide +kernel
theorem dX5_leads_15 : decode cX5_leads 15 = .ok (.ifCond .eq 21, 3) := by decide +kernel
theorem dX5_leads_18 : decode cX5_leads 18 = .ok (.aload_n 0, 1) := by decide +kernel
theorem dX5_leads_19 : decode cX5_leads 19 = .ok (.getfield 16, 3) := by decide +kernel
theorem dX5_leads_22 : decode cX5_leads 22 = .ok (.bipush 48, 2) := by decide +kernel
theorem dX5_leads_24 : decode cX5_leads 24 = .ok (.iload_n 1, 1) := by decide +kernel
theorem dX5_leads_25 : decode cX5_leads 25 = .ok (.imul, 1) := by decide +kernel
theorem dX5_leads_26 : decode cX5_leads 26 = .ok (.iconst 4, 1) := by decide +kernel
theorem dX5_leads_27 : decode cX5_leads 27 = .ok (.iload_n 2, 1) := by decide +kernel
theorem dX5_leads_28 : decode cX5_leads 28 = .ok (.imul, 1) := by decide +kernel
theorem dX5_leads_29 : decode cX5_leads 29 = .ok (.iadd, 1) := by decide +kernel
theorem dX5_leads_30 : decode cX5_leads 30 = .ok (.iload_n 3, 1) := by decide +kernel
theorem dX5_leads_31 : decode cX5_leads 31 = .ok (.iadd, 1) := by decide +kernel
theorem dX5_leads_32 : decode cX5_leads 32 = .ok (.iaload, 1) := by decide +kernel
theorem dX5_leads_33 : decode cX5_leads 33 = .ok (.goto 4, 3) := by decide +kernel
theorem dX5_leads_36 : decode cX5_leads 36 = .ok (.iconst 0, 1) := by decide +kernel
theorem dX5_leads_37 : decode cX5_leads 37 = .ok (.ireturn, 1) := by decide +kernel
set_option maxRecDepth 20000 in
theorem ggX5_mark_X5_isNet : GoodIn wsX5_mark wsX5_isNet := goodIn_r _ [8, 9, 10, 11, 12, 13, 7, 14, 15, 16, 17, 18, 19, 20, 21, 22, 23, 24, 25, 26, 27, 28] (by decide +kernel) (by decide +kernel)
set_option maxRecDepth 20000 in
theorem gX5_mark_X5_isNet : GoodIn wsX5_mark (wsV RX5 56 RX5 yX5_isNet wsX5_isNet) := goodIn_app (goodIn_of _ (by decide +kernel)) ggX5_mark_X5_isNet
set_option maxRecDepth 20000 in
theorem ggX5_mark_X5_right : GoodIn wsX5_mark wsX5_right := goodIn_r _ [14, 9, 15, 16, 17, 18, 19, 20, 21, 22, 23, 24, 25, 26, 27, 28] (by decide +kernel) (by decide +kernel)
set_option maxRecDepth 20000 in
theorem gX5_mark_X5_right : GoodIn wsX5_mark (wsV RX5 52 RX5 yX5_right wsX5_right) := goodIn_app (goodIn_of _ (by decide +kernel)) ggX5_mark_X5_right
theorem dX5_mark_0 : decode cX5_mark 0 = .ok (.aload_n 0, 1) := by decide +kernel
theorem dX5_mark_1 : decode cX5_mark 1 = .ok (.iload_n 1, 1) := by decide +kernel
theorem dX5_mark_2 : decode cX5_mark 2 = .ok (.invokevirtual 56, 3) := by decide +kernel
theorem dX5_mark_5 : decode cX5_mark 5 = .ok (.ifCond .eq 39, 3) := by decide +kernel
theorem dX5_mark_8 : decode cX5_mark 8 = .ok (.aload_n 0, 1) := by decide +kernel
theorem dX5_mark_9 : decode cX5_mark 9 = .ok (.iload_n 2, 1) := by decide +kernel
theorem dX5_mark_10 : decode cX5_mark 10 = .ok (.ifCond .lt 17, 3) := by decide +kernel
theorem dX5_mark_13 : decode cX5_mark 13 = .ok (.iload_n 2, 1) := by decide +kernel
theorem dX5_mark_14 : decode cX5_mark 14 = .ok (.aload_n 0, 1) := by decide +kernel
theorem dX5_mark_15 : decode cX5_mark 15 = .ok (.getfield 7, 3) := by decide +kernel
theorem dX5_mark_18 : decode cX5_mark 18 = .ok (.iload_n 1, 1) := by decide +kernel
theorem dX5_mark_19 : decode cX5_mark 19 = .ok (.iaload, 1) := by decide +kernel
theorem dX5_mark_20 : decode cX5_mark 20 = .ok (.if_icmp .ge 7, 3) := by decide +kernel
theorem dX5_mark_23 : decode cX5_mark 23 = .ok (.iconst 1, 1) := by decide +kernel
theorem dX5_mark_24 : decode cX5_mark 24 = .ok (.goto 4, 3) := by decide +kernel
theorem dX5_mark_27 : decode cX5_mark 27 = .ok (.iconst 0, 1) := by decide +kernel
theorem dX5_mark_28 : decode cX5_mark 28 = .ok (.iconst 1, 1) := by decide +kernel
theorem dX5_mark_29 : decode cX5_mark 29 = .ok (.invokevirtual 52, 3) := by decide +kernel
theorem dX5_mark_32 : decode cX5_mark 32 = .ok (.ifCond .eq 12, 3) := by decide +kernel
theorem dX5_mark_35 : decode cX5_mark 35 = .ok (.aload_n 0, 1) := by decide +kernel
theorem dX5_mark_36 : decode cX5_mark 36 = .ok (.getfield 23, 3) := by decide +kernel
theorem dX5_mark_39 : decode cX5_mark 39 = .ok (.iload_n 1, 1) := by decide +kernel
theorem dX5_mark_40 : decode cX5_mark 40 = .ok (.baload, 1) := by decide +kernel
theorem dX5_mark_41 : decode cX5_mark 41 = .ok (.ifCond .eq 5, 3) := by decide +kernel
theorem dX5_mark_44 : decode cX5_mark 44 = .ok (.iconst 0, 1) := by decide +kernel
theorem dX5_mark_45 : decode cX5_mark 45 = .ok (.ireturn, 1) := by decide +kernel
theorem dX5_mark_46 : decode cX5_mark 46 = .ok (.aload_n 0, 1) := by decide +kernel
theorem dX5_mark_47 : decode cX5_mark 47 = .ok (.getfield 19, 3) := by decide +kernel
theorem dX5_mark_50 : decode cX5_mark 50 = .ok (.bipush 12, 2) := by decide +kernel
theorem dX5_mark_52 : decode cX5_mark 52 = .ok (.iload_n 1, 1) := by decide +kernel
theorem dX5_mark_53 : decode cX5_mark 53 = .ok (.imul, 1) := by decide +kernel
theorem dX5_mark_54 : decode cX5_mark 54 = .ok (.iload_n 2, 1) := by decide +kernel
theorem dX5_mark_55 : decode cX5_mark 55 = .ok (.iadd, 1) := by decide +kernel
theorem dX5_mark_56 : decode cX5_mark 56 = .ok (.iload_n 3, 1) := by decide +kernel
theorem dX5_mark_57 : decode cX5_mark 57 = .ok (.bastore, 1) := by decide +kernel
theorem dX5_mark_58 : decode cX5_mark 58 = .ok (.iconst 1, 1) := by decide +kernel
theorem dX5_mark_59 : decode cX5_mark 59 = .ok (.ireturn, 1) := by decide +kernel
theorem dX5_many_0 : decode cX5_many 0 = .ok (.iconst 0, 1) := by decide +kernel
theorem dX5_many_1 : decode cX5_many 1 = .ok (.istore 4, 2) := by decide +kernel
theorem dX5_many_3 : decode cX5_many 3 = .ok (.iconst 0, 1) := by decide +kernel
theorem dX5_many_4 : decode cX5_many 4 = .ok (.istore 5, 2) := by decide +kernel
theorem dX5_many_6 : decode cX5_many 6 = .ok (.iload 5, 2) := by decide +kernel
theorem dX5_many_8 : decode cX5_many 8 = .ok (.aload_n 0, 1) := by decide +kernel
theorem dX5_many_9 : decode cX5_many 9 = .ok (.getfield 13, 3) := by decide +kernel
theorem dX5_many_12 : decode cX5_many 12 = .ok (.iload_n 1, 1) := by decide +kernel
theorem dX5_many_13 : decode cX5_many 13 = .ok (.iaload, 1) := by decide +kernel
theorem dX5_many_14 : decode cX5_many 14 = .ok (.if_icmp .ge 39, 3) := by decide +kernel
theorem dX5_many_17 : decode cX5_many 17 = .ok (.aload_n 0, 1) := by decide +kernel
theorem dX5_many_18 : decode cX5_many 18 = .ok (.getfield 39, 3) := by decide +kernel
theorem dX5_many_21 : decode cX5_many 21 = .ok (.aload_n 0, 1) := by decide +kernel
theorem dX5_many_22 : decode cX5_many 22 = .ok (.getfield 16, 3) := by decide +kernel
theorem dX5_many_25 : decode cX5_many 25 = .ok (.bipush 48, 2) := by decide +kernel
theorem dX5_many_27 : decode cX5_many 27 = .ok (.iload_n 1, 1) := by decide +kernel
theorem dX5_many_28 : decode cX5_many 28 = .ok (.imul, 1) := by decide +kernel
theorem dX5_many_29 : decode cX5_many 29 = .ok (.iconst 4, 1) := by decide +kernel
theorem dX5_many_30 : decode cX5_many 30 = .ok (.iload_n 2, 1) := by decide +kernel
theorem dX5_many_31 : decode cX5_many 31 = .ok (.imul, 1) := by decide +kernel
theorem dX5_many_32 : decode cX5_many 32 = .ok (.iadd, 1) := by decide +kernel
theorem dX5_many_33 : decode cX5_many 33 = .ok (.iload 5, 2) := by decide +kernel
theorem dX5_many_35 : decode cX5_many 35 = .ok (.iadd, 1) := by decide +kernel
theorem dX5_many_36 : decode cX5_many 36 = .ok (.iaload, 1) := by decide +kernel
theorem dX5_many_37 : decode cX5_many 37 = .ok (.iconst 4, 1) := by decide +kernel
theorem dX5_many_38 : decode cX5_many 38 = .ok (.idiv, 1) := by decide +kernel
theorem dX5_many_39 : decode cX5_many 39 = .ok (.iaload, 1) := by decide +kernel
theorem dX5_many_40 : decode cX5_many 40 = .ok (.iload_n 3, 1) := by decide +kernel
theorem dX5_many_41 : decode cX5_many 41 = .ok (.if_icmp .ne 6, 3) := by decide +kernel
theorem dX5_many_44 : decode cX5_many 44 = .ok (.iinc 4 1, 3) := by decide +kernel
theorem dX5_many_47 : decode cX5_many 47 = .ok (.iinc 5 1, 3) := by decide +kernel
theorem dX5_many_50 : decode cX5_many 50 = .ok (.goto (-44), 3) := by decide +kernel
theorem dX5_many_53 : decode cX5_many 53 = .ok (.iload 4, 2) := by decide +kernel
theorem dX5_many_55 : decode cX5_many 55 = .ok (.ireturn, 1) := by decide +kernel
set_option maxRecDepth 20000 in
theorem ggX5_areAlike_X5_many : GoodIn wsX5_areAlike wsX5_many := goodIn_r _ [7, 8, 1, 9, 10, 11, 12, 13, 14, 15, 16, 17, 18, 19, 20, 21, 22, 23] (by decide +kernel) (by decide +kernel)
set_option maxRecDepth 20000 in
theorem gX5_areAlike_X5_many : GoodIn wsX5_areAlike (wsV RX5 64 RX5 yX5_many wsX5_many) := goodIn_app (goodIn_of _ (by decide +kernel)) ggX5_areAlike_X5_many
theorem dX5_areAlike_0 : decode cX5_areAlike 0 = .ok (.aload_n 0, 1) := by decide +kernel
theorem dX5_areAlike_1 : decode cX5_areAlike 1 = .ok (.getfield 39, 3) := by decide +kernel
theorem dX5_areAlike_4 : decode cX5_areAlike 4 = .ok (.iload_n 2, 1) := by decide +kernel
theorem dX5_areAlike_5 : decode cX5_areAlike 5 = .ok (.iaload, 1) := by decide +kernel
theorem dX5_areAlike_6 : decode cX5_areAlike 6 = .ok (.aload_n 0, 1) := by decide +kernel
theorem dX5_areAlike_7 : decode cX5_areAlike 7 = .ok (.getfield 39, 3) := by decide +kernel
theorem dX5_areAlike_10 : decode cX5_areAlike 10 = .ok (.iload_n 3, 1) := by decide +kernel
theorem dX5_areAlike_11 : decode cX5_areAlike 11 = .ok (.iaload, 1) := by decide +kernel
theorem dX5_areAlike_12 : decode cX5_areAlike 12 = .ok (.if_icmp .eq 5, 3) := by decide +kernel
theorem dX5_areAlike_15 : decode cX5_areAlike 15 = .ok (.iconst 0, 1) := by decide +kernel
theorem dX5_areAlike_16 : decode cX5_areAlike 16 = .ok (.ireturn, 1) := by decide +kernel
theorem dX5_areAlike_17 : decode cX5_areAlike 17 = .ok (.iconst 0, 1) := by decide +kernel
theorem dX5_areAlike_18 : decode cX5_areAlike 18 = .ok (.istore 4, 2) := by decide +kernel
theorem dX5_areAlike_20 : decode cX5_areAlike 20 = .ok (.iload 4, 2) := by decide +kernel
theorem dX5_areAlike_22 : decode cX5_areAlike 22 = .ok (.aload_n 0, 1) := by decide +kernel
theorem dX5_areAlike_23 : decode cX5_areAlike 23 = .ok (.getfield 7, 3) := by decide +kernel
theorem dX5_areAlike_26 : decode cX5_areAlike 26 = .ok (.iload_n 1, 1) := by decide +kernel
theorem dX5_areAlike_27 : decode cX5_areAlike 27 = .ok (.iaload, 1) := by decide +kernel
theorem dX5_areAlike_28 : decode cX5_areAlike 28 = .ok (.if_icmp .ge 30, 3) := by decide +kernel
theorem dX5_areAlike_31 : decode cX5_areAlike 31 = .ok (.aload_n 0, 1) := by decide +kernel
theorem dX5_areAlike_32 : decode cX5_areAlike 32 = .ok (.iload_n 1, 1) := by decide +kernel
theorem dX5_areAlike_33 : decode cX5_areAlike 33 = .ok (.iload_n 2, 1) := by decide +kernel
theorem dX5_areAlike_34 : decode cX5_areAlike 34 = .ok (.iload 4, 2) := by decide +kernel
theorem dX5_areAlike_36 : decode cX5_areAlike 36 = .ok (.invokevirtual 64, 3) := by decide +kernel
theorem dX5_areAlike_39 : decode cX5_areAlike 39 = .ok (.aload_n 0, 1) := by decide +kernel
theorem dX5_areAlike_40 : decode cX5_areAlike 40 = .ok (.iload_n 1, 1) := by decide +kernel
theorem dX5_areAlike_41 : decode cX5_areAlike 41 = .ok (.iload_n 3, 1) := by decide +kernel
theorem dX5_areAlike_42 : decode cX5_areAlike 42 = .ok (.iload 4, 2) := by decide +kernel
theorem dX5_areAlike_44 : decode cX5_areAlike 44 = .ok (.invokevirtual 64, 3) := by decide +kernel
theorem dX5_areAlike_47 : decode cX5_areAlike 47 = .ok (.if_icmp .eq 5, 3) := by decide +kernel
theorem dX5_areAlike_50 : decode cX5_areAlike 50 = .ok (.iconst 0, 1) := by decide +kernel
theorem dX5_areAlike_51 : decode cX5_areAlike 51 = .ok (.ireturn, 1) := by decide +kernel
theorem dX5_areAlike_52 : decode cX5_areAlike 52 = .ok (.iinc 4 1, 3) := by decide +kernel
theorem dX5_areAlike_55 : decode cX5_areAlike 55 = .ok (.goto (-35), 3) := by decide +kernel
theorem dX5_areAlike_58 : decode cX5_areAlike 58 = .ok (.iconst 1, 1) := by decide +kernel
theorem dX5_areAlike_59 : decode cX5_areAlike 59 = .ok (.ireturn, 1) := by decide +kernel
set_option maxRecDepth 20000 in
theorem ggX5_finds_X5_areAlike : GoodIn wsX5_finds wsX5_areAlike := goodIn_r _ [9, 3, 1, 10, 11, 12, 8, 13, 14, 15, 16, 17, 18, 19, 20, 21, 22, 23, 24, 25, 26, 27, 28, 29] (by decide +kernel) (by decide +kernel)
set_option maxRecDepth 20000 in
theorem gX5_finds_X5_areAlike : GoodIn wsX5_finds (wsV RX5 68 RX5 yX5_areAlike wsX5_areAlike) := goodIn_app (goodIn_of _ (by decide +kernel)) ggX5_finds_X5_areAlike
theorem dX5_finds_0 : decode cX5_finds 0 = .ok (.iconst 0, 1) := by decide +kernel
theorem dX5_finds_1 : decode cX5_finds 1 = .ok (.istore_n 2, 1) := by decide +kernel
theorem dX5_finds_2 : decode cX5_finds 2 = .ok (.iload_n 2, 1) := by decide +kernel
theorem dX5_finds_3 : decode cX5_finds 3 = .ok (.aload_n 0, 1) := by decide +kernel
theorem dX5_finds_4 : decode cX5_finds 4 = .ok (.getfield 7, 3) := by decide +kernel
theorem dX5_finds_7 : decode cX5_finds 7 = .ok (.iload_n 1, 1) := by decide +kernel
theorem dX5_finds_8 : decode cX5_finds 8 = .ok (.iaload, 1) := by decide +kernel
theorem dX5_finds_9 : decode cX5_finds 9 = .ok (.if_icmp .ge 49, 3) := by decide +kernel
theorem dX5_finds_12 : decode cX5_finds 12 = .ok (.iconst 0, 1) := by decide +kernel
theorem dX5_finds_13 : decode cX5_finds 13 = .ok (.istore_n 3, 1) := by decide +kernel
theorem dX5_finds_14 : decode cX5_finds 14 = .ok (.aload_n 0, 1) := by decide +kernel
theorem dX5_finds_15 : decode cX5_finds 15 = .ok (.getfield 19, 3) := by decide +kernel
theorem dX5_finds_18 : decode cX5_finds 18 = .ok (.bipush 12, 2) := by decide +kernel
theorem dX5_finds_20 : decode cX5_finds 20 = .ok (.iload_n 1, 1) := by decide +kernel
theorem dX5_finds_21 : decode cX5_finds 21 = .ok (.imul, 1) := by decide +kernel
theorem dX5_finds_22 : decode cX5_finds 22 = .ok (.iload_n 3, 1) := by decide +kernel
theorem dX5_finds_23 : decode cX5_finds 23 = .ok (.iadd, 1) := by decide +kernel
theorem dX5_finds_24 : decode cX5_finds 24 = .ok (.baload, 1) := by decide +kernel
theorem dX5_finds_25 : decode cX5_finds 25 = .ok (.aload_n 0, 1) := by decide +kernel
theorem dX5_finds_26 : decode cX5_finds 26 = .ok (.getfield 19, 3) := by decide +kernel
theorem dX5_finds_29 : decode cX5_finds 29 = .ok (.bipush 12, 2) := by decide +kernel
theorem dX5_finds_31 : decode cX5_finds 31 = .ok (.iload_n 1, 1) := by decide +kernel
theorem dX5_finds_32 : decode cX5_finds 32 = .ok (.imul, 1) := by decide +kernel
theorem dX5_finds_33 : decode cX5_finds 33 = .ok (.iload_n 2, 1) := by decide +kernel
theorem dX5_finds_34 : decode cX5_finds 34 = .ok (.iadd, 1) := by decide +kernel
theorem dX5_finds_35 : decode cX5_finds 35 = .ok (.baload, 1) := by decide +kernel
theorem dX5_finds_36 : decode cX5_finds 36 = .ok (.if_icmp .eq 9, 3) := by decide +kernel
theorem dX5_finds_39 : decode cX5_finds 39 = .ok (.iinc 3 1, 3) := by decide +kernel
theorem dX5_finds_42 : decode cX5_finds 42 = .ok (.goto (-28), 3) := by decide +kernel
theorem dX5_finds_45 : decode cX5_finds 45 = .ok (.aload_n 0, 1) := by decide +kernel
theorem dX5_finds_46 : decode cX5_finds 46 = .ok (.getfield 39, 3) := by decide +kernel
theorem dX5_finds_49 : decode cX5_finds 49 = .ok (.iload_n 2, 1) := by decide +kernel
theorem dX5_finds_50 : decode cX5_finds 50 = .ok (.iload_n 3, 1) := by decide +kernel
theorem dX5_finds_51 : decode cX5_finds 51 = .ok (.iastore, 1) := by decide +kernel
theorem dX5_finds_52 : decode cX5_finds 52 = .ok (.iinc 2 1, 3) := by decide +kernel
theorem dX5_finds_55 : decode cX5_finds 55 = .ok (.goto (-53), 3) := by decide +kernel
theorem dX5_finds_58 : decode cX5_finds 58 = .ok (.iconst 1, 1) := by decide +kernel
theorem dX5_finds_59 : decode cX5_finds 59 = .ok (.istore_n 2, 1) := by decide +kernel
theorem dX5_finds_60 : decode cX5_finds 60 = .ok (.iload_n 2, 1) := by decide +kernel
theorem dX5_finds_61 : decode cX5_finds 61 = .ok (.ifCond .eq 109, 3) := by decide +kernel
theorem dX5_finds_64 : decode cX5_finds 64 = .ok (.iconst 0, 1) := by decide +kernel
theorem dX5_finds_65 : decode cX5_finds 65 = .ok (.istore_n 2, 1) := by decide +kernel
theorem dX5_finds_66 : decode cX5_finds 66 = .ok (.iconst 0, 1) := by decide +kernel
theorem dX5_finds_67 : decode cX5_finds 67 = .ok (.istore_n 3, 1) := by decide +kernel
theorem dX5_finds_68 : decode cX5_finds 68 = .ok (.iload_n 3, 1) := by decide +kernel
theorem dX5_finds_69 : decode cX5_finds 69 = .ok (.aload_n 0, 1) := by decide +kernel
theorem dX5_finds_70 : decode cX5_finds 70 = .ok (.getfield 7, 3) := by decide +kernel
theorem dX5_finds_73 : decode cX5_finds 73 = .ok (.iload_n 1, 1) := by decide +kernel
theorem dX5_finds_74 : decode cX5_finds 74 = .ok (.iaload, 1) := by decide +kernel
theorem dX5_finds_75 : decode cX5_finds 75 = .ok (.if_icmp .ge 37, 3) := by decide +kernel
theorem dX5_finds_78 : decode cX5_finds 78 = .ok (.iconst 0, 1) := by decide +kernel
theorem dX5_finds_79 : decode cX5_finds 79 = .ok (.istore 4, 2) := by decide +kernel
theorem dX5_finds_81 : decode cX5_finds 81 = .ok (.aload_n 0, 1) := by decide +kernel
theorem dX5_finds_82 : decode cX5_finds 82 = .ok (.iload_n 1, 1) := by decide +kernel
theorem dX5_finds_83 : decode cX5_finds 83 = .ok (.iload_n 3, 1) := by decide +kernel
theorem dX5_finds_84 : decode cX5_finds 84 = .ok (.iload 4, 2) := by decide +kernel
theorem dX5_finds_86 : decode cX5_finds 86 = .ok (.invokevirtual 68, 3) := by decide +kernel
theorem dX5_finds_89 : decode cX5_finds 89 = .ok (.ifCond .ne 9, 3) := by decide +kernel
theorem dX5_finds_92 : decode cX5_finds 92 = .ok (.iinc 4 1, 3) := by decide +kernel
theorem dX5_finds_95 : decode cX5_finds 95 = .ok (.goto (-14), 3) := by decide +kernel
theorem dX5_finds_98 : decode cX5_finds 98 = .ok (.aload_n 0, 1) := by decide +kernel
theorem dX5_finds_99 : decode cX5_finds 99 = .ok (.getfield 42, 3) := by decide +kernel
theorem dX5_finds_102 : decode cX5_finds 102 = .ok (.iload_n 3, 1) := by decide +kernel
theorem dX5_finds_103 : decode cX5_finds 103 = .ok (.iload 4, 2) := by decide +kernel
theorem dX5_finds_105 : decode cX5_finds 105 = .ok (.iastore, 1) := by decide +kernel
theorem dX5_finds_106 : decode cX5_finds 106 = .ok (.iinc 3 1, 3) := by decide +kernel
theorem dX5_finds_109 : decode cX5_finds 109 = .ok (.goto (-41), 3) := by decide +kernel
theorem dX5_finds_112 : decode cX5_finds 112 = .ok (.iconst 0, 1) := by decide +kernel
theorem dX5_finds_113 : decode cX5_finds 113 = .ok (.istore_n 3, 1) := by decide +kernel
theorem dX5_finds_114 : decode cX5_finds 114 = .ok (.iload_n 3, 1) := by decide +kernel
theorem dX5_finds_115 : decode cX5_finds 115 = .ok (.aload_n 0, 1) := by decide +kernel
theorem dX5_finds_116 : decode cX5_finds 116 = .ok (.getfield 7, 3) := by decide +kernel
theorem dX5_finds_119 : decode cX5_finds 119 = .ok (.iload_n 1, 1) := by decide +kernel
theorem dX5_finds_120 : decode cX5_finds 120 = .ok (.iaload, 1) := by decide +kernel
theorem dX5_finds_121 : decode cX5_finds 121 = .ok (.if_icmp .ge 46, 3) := by decide +kernel
theorem dX5_finds_124 : decode cX5_finds 124 = .ok (.iload_n 2, 1) := by decide +kernel
theorem dX5_finds_125 : decode cX5_finds 125 = .ok (.ifCond .ne 18, 3) := by decide +kernel
theorem dX5_finds_128 : decode cX5_finds 128 = .ok (.aload_n 0, 1) := by decide +kernel
theorem dX5_finds_129 : decode cX5_finds 129 = .ok (.getfield 42, 3) := by decide +kernel
theorem dX5_finds_132 : decode cX5_finds 132 = .ok (.iload_n 3, 1) := by decide +kernel
theorem dX5_finds_133 : decode cX5_finds 133 = .ok (.iaload, 1) := by decide +kernel
theorem dX5_finds_134 : decode cX5_finds 134 = .ok (.aload_n 0, 1) := by decide +kernel
theorem dX5_finds_135 : decode cX5_finds 135 = .ok (.getfield 39, 3) := by decide +kernel
theorem dX5_finds_138 : decode cX5_finds 138 = .ok (.iload_n 3, 1) := by decide +kernel
theorem dX5_finds_139 : decode cX5_finds 139 = .ok (.iaload, 1) := by decide +kernel
theorem dX5_finds_140 : decode cX5_finds 140 = .ok (.if_icmp .eq 7, 3) := by decide +kernel
theorem dX5_finds_143 : decode cX5_finds 143 = .ok (.iconst 1, 1) := by decide +kernel
theorem dX5_finds_144 : decode cX5_finds 144 = .ok (.goto 4, 3) := by decide +kernel
theorem dX5_finds_147 : decode cX5_finds 147 = .ok (.iconst 0, 1) := by decide +kernel
theorem dX5_finds_148 : decode cX5_finds 148 = .ok (.istore_n 2, 1) := by decide +kernel
theorem dX5_finds_149 : decode cX5_finds 149 = .ok (.aload_n 0, 1) := by decide +kernel
theorem dX5_finds_150 : decode cX5_finds 150 = .ok (.getfield 39, 3) := by decide +kernel
theorem dX5_finds_153 : decode cX5_finds 153 = .ok (.iload_n 3, 1) := by decide +kernel
theorem dX5_finds_154 : decode cX5_finds 154 = .ok (.aload_n 0, 1) := by decide +kernel
theorem dX5_finds_155 : decode cX5_finds 155 = .ok (.getfield 42, 3) := by decide +kernel
theorem dX5_finds_158 : decode cX5_finds 158 = .ok (.iload_n 3, 1) := by decide +kernel
theorem dX5_finds_159 : decode cX5_finds 159 = .ok (.iaload, 1) := by decide +kernel
theorem dX5_finds_160 : decode cX5_finds 160 = .ok (.iastore, 1) := by decide +kernel
theorem dX5_finds_161 : decode cX5_finds 161 = .ok (.iinc 3 1, 3) := by decide +kernel
theorem dX5_finds_164 : decode cX5_finds 164 = .ok (.goto (-50), 3) := by decide +kernel
theorem dX5_finds_167 : decode cX5_finds 167 = .ok (.goto (-107), 3) := by decide +kernel
theorem dX5_finds_170 : decode cX5_finds 170 = .ok (.iconst 0, 1) := by decide +kernel
theorem dX5_finds_171 : decode cX5_finds 171 = .ok (.istore_n 3, 1) := by decide +kernel
theorem dX5_finds_172 : decode cX5_finds 172 = .ok (.iconst 0, 1) := by decide +kernel
theorem dX5_finds_173 : decode cX5_finds 173 = .ok (.istore 4, 2) := by decide +kernel
theorem dX5_finds_175 : decode cX5_finds 175 = .ok (.iload 4, 2) := by decide +kernel
theorem dX5_finds_177 : decode cX5_finds 177 = .ok (.aload_n 0, 1) := by decide +kernel
theorem dX5_finds_178 : decode cX5_finds 178 = .ok (.getfield 7, 3) := by decide +kernel
theorem dX5_finds_181 : decode cX5_finds 181 = .ok (.iload_n 1, 1) := by decide +kernel
theorem dX5_finds_182 : decode cX5_finds 182 = .ok (.iaload, 1) := by decide +kernel
theorem dX5_finds_183 : decode cX5_finds 183 = .ok (.if_icmp .ge 53, 3) := by decide +kernel
theorem dX5_finds_186 : decode cX5_finds 186 = .ok (.aload_n 0, 1) := by decide +kernel
theorem dX5_finds_187 : decode cX5_finds 187 = .ok (.getfield 39, 3) := by decide +kernel
theorem dX5_finds_190 : decode cX5_finds 190 = .ok (.iload 4, 2) := by decide +kernel
theorem dX5_finds_192 : decode cX5_finds 192 = .ok (.iaload, 1) := by decide +kernel
theorem dX5_finds_193 : decode cX5_finds 193 = .ok (.istore 5, 2) := by decide +kernel
theorem dX5_finds_195 : decode cX5_finds 195 = .ok (.aload_n 0, 1) := by decide +kernel
theorem dX5_finds_196 : decode cX5_finds 196 = .ok (.getfield 39, 3) := by decide +kernel
theorem dX5_finds_199 : decode cX5_finds 199 = .ok (.iload 4, 2) := by decide +kernel
theorem dX5_finds_201 : decode cX5_finds 201 = .ok (.iload 5, 2) := by decide +kernel
theorem dX5_finds_203 : decode cX5_finds 203 = .ok (.iload 4, 2) := by decide +kernel
theorem dX5_finds_205 : decode cX5_finds 205 = .ok (.if_icmp .ne 7, 3) := by decide +kernel
theorem dX5_finds_208 : decode cX5_finds 208 = .ok (.iload_n 3, 1) := by decide +kernel
theorem dX5_finds_209 : decode cX5_finds 209 = .ok (.goto 10, 3) := by decide +kernel
theorem dX5_finds_212 : decode cX5_finds 212 = .ok (.aload_n 0, 1) := by decide +kernel
theorem dX5_finds_213 : decode cX5_finds 213 = .ok (.getfield 39, 3) := by decide +kernel
theorem dX5_finds_216 : decode cX5_finds 216 = .ok (.iload 5, 2) := by decide +kernel
theorem dX5_finds_218 : decode cX5_finds 218 = .ok (.iaload, 1) := by decide +kernel
theorem dX5_finds_219 : decode cX5_finds 219 = .ok (.iastore, 1) := by decide +kernel
theorem dX5_finds_220 : decode cX5_finds 220 = .ok (.iload 5, 2) := by decide +kernel
theorem dX5_finds_222 : decode cX5_finds 222 = .ok (.iload 4, 2) := by decide +kernel
theorem dX5_finds_224 : decode cX5_finds 224 = .ok (.if_icmp .ne 6, 3) := by decide +kernel
theorem dX5_finds_227 : decode cX5_finds 227 = .ok (.iinc 3 1, 3) := by decide +kernel
theorem dX5_finds_230 : decode cX5_finds 230 = .ok (.iinc 4 1, 3) := by decide +kernel
theorem dX5_finds_233 : decode cX5_finds 233 = .ok (.goto (-58), 3) := by decide +kernel
theorem dX5_finds_236 : decode cX5_finds 236 = .ok (.iload_n 3, 1) := by decide +kernel
theorem dX5_finds_237 : decode cX5_finds 237 = .ok (.ireturn, 1) := by decide +kernel
set_option maxRecDepth 20000 in
theorem ggX5_alike_X5_isNet : GoodIn wsX5_alike wsX5_isNet := goodIn_r _ [7, 8, 9, 10, 11, 12, 6, 13, 30, 31, 32, 33, 34, 35, 36, 37, 38, 39, 40, 41, 42, 43] (by decide +kernel) (by decide +kernel)
set_option maxRecDepth 20000 in
theorem gX5_alike_X5_isNet : GoodIn wsX5_alike (wsV RX5 56 RX5 yX5_isNet wsX5_isNet) := goodIn_app (goodIn_of _ (by decide +kernel)) ggX5_alike_X5_isNet
set_option maxRecDepth 20000 in
theorem ggX5_alike_X5_right : GoodIn wsX5_alike wsX5_right := goodIn_r _ [13, 8, 30, 31, 32, 33, 34, 35, 36, 37, 38, 39, 40, 41, 42, 43] (by decide +kernel) (by decide +kernel)
set_option maxRecDepth 20000 in
theorem gX5_alike_X5_right : GoodIn wsX5_alike (wsV RX5 52 RX5 yX5_right wsX5_right) := goodIn_app (goodIn_of _ (by decide +kernel)) ggX5_alike_X5_right
set_option maxRecDepth 20000 in
theorem ggX5_alike_X5_finds : GoodIn wsX5_alike wsX5_finds := goodIn_r _ [17, 1, 18, 2, 19, 20, 21, 22, 6, 23, 24, 25, 26, 27, 28, 29, 30, 31, 32, 33, 34, 35, 36, 37, 38, 39, 40, 41, 42, 43] (by decide +kernel) (by decide +kernel)
set_option maxRecDepth 20000 in
theorem gX5_alike_X5_finds : GoodIn wsX5_alike (wsV RX5 71 RX5 yX5_finds wsX5_finds) := goodIn_app (goodIn_of _ (by decide +kernel)) ggX5_alike_X5_finds
theorem dX5_alike_0 : decode cX5_alike 0 = .ok (.aload_n 0, 1) := by decide +kernel
theorem dX5_alike_1 : decode cX5_alike 1 = .ok (.iload_n 1, 1) := by decide +kernel
theorem dX5_alike_2 : decode cX5_alike 2 = .ok (.invokevirtual 56, 3) := by decide +kernel
theorem dX5_alike_5 : decode cX5_alike 5 = .ok (.ifCond .eq 31, 3) := by decide +kernel
theorem dX5_alike_8 : decode cX5_alike 8 = .ok (.aload_n 0, 1) := by decide +kernel
theorem dX5_alike_9 : decode cX5_alike 9 = .ok (.iload_n 2, 1) := by decide +kernel
theorem dX5_alike_10 : decode cX5_alike 10 = .ok (.iconst (-1), 1) := by decide +kernel
theorem dX5_alike_11 : decode cX5_alike 11 = .ok (.if_icmp .lt 17, 3) := by decide +kernel
theorem dX5_alike_14 : decode cX5_alike 14 = .ok (.iload_n 2, 1) := by decide +kernel
theorem dX5_alike_15 : decode cX5_alike 15 = .ok (.aload_n 0, 1) := by decide +kernel
theorem dX5_alike_16 : decode cX5_alike 16 = .ok (.getfield 7, 3) := by decide +kernel
theorem dX5_alike_19 : decode cX5_alike 19 = .ok (.iload_n 1, 1) := by decide +kernel
theorem dX5_alike_20 : decode cX5_alike 20 = .ok (.iaload, 1) := by decide +kernel
theorem dX5_alike_21 : decode cX5_alike 21 = .ok (.if_icmp .ge 7, 3) := by decide +kernel
theorem dX5_alike_24 : decode cX5_alike 24 = .ok (.iconst 1, 1) := by decide +kernel
theorem dX5_alike_25 : decode cX5_alike 25 = .ok (.goto 4, 3) := by decide +kernel
theorem dX5_alike_28 : decode cX5_alike 28 = .ok (.iconst 0, 1) := by decide +kernel
theorem dX5_alike_29 : decode cX5_alike 29 = .ok (.iconst 1, 1) := by decide +kernel
theorem dX5_alike_30 : decode cX5_alike 30 = .ok (.invokevirtual 52, 3) := by decide +kernel
theorem dX5_alike_33 : decode cX5_alike 33 = .ok (.ifCond .ne 5, 3) := by decide +kernel
theorem dX5_alike_36 : decode cX5_alike 36 = .ok (.iconst 0, 1) := by decide +kernel
theorem dX5_alike_37 : decode cX5_alike 37 = .ok (.ireturn, 1) := by decide +kernel
theorem dX5_alike_38 : decode cX5_alike 38 = .ok (.aload_n 0, 1) := by decide +kernel
theorem dX5_alike_39 : decode cX5_alike 39 = .ok (.iload_n 1, 1) := by decide +kernel
theorem dX5_alike_40 : decode cX5_alike 40 = .ok (.invokevirtual 71, 3) := by decide +kernel
theorem dX5_alike_43 : decode cX5_alike 43 = .ok (.istore_n 3, 1) := by decide +kernel
theorem dX5_alike_44 : decode cX5_alike 44 = .ok (.iload_n 2, 1) := by decide +kernel
theorem dX5_alike_45 : decode cX5_alike 45 = .ok (.iconst (-1), 1) := by decide +kernel
theorem dX5_alike_46 : decode cX5_alike 46 = .ok (.if_icmp .ne 7, 3) := by decide +kernel
theorem dX5_alike_49 : decode cX5_alike 49 = .ok (.iload_n 3, 1) := by decide +kernel
theorem dX5_alike_50 : decode cX5_alike 50 = .ok (.goto 9, 3) := by decide +kernel
theorem dX5_alike_53 : decode cX5_alike 53 = .ok (.aload_n 0, 1) := by decide +kernel
theorem dX5_alike_54 : decode cX5_alike 54 = .ok (.getfield 39, 3) := by decide +kernel
theorem dX5_alike_57 : decode cX5_alike 57 = .ok (.iload_n 2, 1) := by decide +kernel
theorem dX5_alike_58 : decode cX5_alike 58 = .ok (.iaload, 1) := by decide +kernel
theorem dX5_alike_59 : decode cX5_alike 59 = .ok (.ireturn, 1) := by decide +kernel
set_option maxRecDepth 20000 in
theorem ggX5_isWalk_X5_right : GoodIn wsX5_isWalk wsX5_right := goodIn_r _ [7, 1, 8, 9, 10, 11, 12, 13, 14, 15, 16, 17, 18, 19, 20, 21] (by decide +kernel) (by decide +kernel)
set_option maxRecDepth 20000 in
theorem gX5_isWalk_X5_right : GoodIn wsX5_isWalk (wsV RX5 52 RX5 yX5_right wsX5_right) := goodIn_app (goodIn_of _ (by decide +kernel)) ggX5_isWalk_X5_right
theorem dX5_isWalk_0 : decode cX5_isWalk 0 = .ok (.aload_n 0, 1) := by decide +kernel
theorem dX5_isWalk_1 : decode cX5_isWalk 1 = .ok (.iconst 0, 1) := by decide +kernel
theorem dX5_isWalk_2 : decode cX5_isWalk 2 = .ok (.putfield 45, 3) := by decide +kernel
theorem dX5_isWalk_5 : decode cX5_isWalk 5 = .ok (.aload_n 0, 1) := by decide +kernel
theorem dX5_isWalk_6 : decode cX5_isWalk 6 = .ok (.iload_n 1, 1) := by decide +kernel
theorem dX5_isWalk_7 : decode cX5_isWalk 7 = .ok (.ifCond .lt 15, 3) := by decide +kernel
theorem dX5_isWalk_10 : decode cX5_isWalk 10 = .ok (.iload_n 1, 1) := by decide +kernel
theorem dX5_isWalk_11 : decode cX5_isWalk 11 = .ok (.aload_n 0, 1) := by decide +kernel
theorem dX5_isWalk_12 : decode cX5_isWalk 12 = .ok (.getfield 75, 3) := by decide +kernel
theorem dX5_isWalk_15 : decode cX5_isWalk 15 = .ok (.if_icmp .ge 7, 3) := by decide +kernel
theorem dX5_isWalk_18 : decode cX5_isWalk 18 = .ok (.iconst 1, 1) := by decide +kernel
theorem dX5_isWalk_19 : decode cX5_isWalk 19 = .ok (.goto 4, 3) := by decide +kernel
theorem dX5_isWalk_22 : decode cX5_isWalk 22 = .ok (.iconst 0, 1) := by decide +kernel
theorem dX5_isWalk_23 : decode cX5_isWalk 23 = .ok (.iconst 1, 1) := by decide +kernel
theorem dX5_isWalk_24 : decode cX5_isWalk 24 = .ok (.invokevirtual 52, 3) := by decide +kernel
theorem dX5_isWalk_27 : decode cX5_isWalk 27 = .ok (.ireturn, 1) := by decide +kernel
set_option maxRecDepth 20000 in
theorem ggX5_isIn_X5_right : GoodIn wsX5_isIn wsX5_right := goodIn_r _ [7, 8, 9, 10, 11, 12, 13, 14, 15, 16, 17, 18, 19, 20, 21, 22] (by decide +kernel) (by decide +kernel)
set_option maxRecDepth 20000 in
theorem gX5_isIn_X5_right : GoodIn wsX5_isIn (wsV RX5 52 RX5 yX5_right wsX5_right) := goodIn_app (goodIn_of _ (by decide +kernel)) ggX5_isIn_X5_right
theorem dX5_isIn_0 : decode cX5_isIn 0 = .ok (.aload_n 0, 1) := by decide +kernel
theorem dX5_isIn_1 : decode cX5_isIn 1 = .ok (.iload_n 2, 1) := by decide +kernel
theorem dX5_isIn_2 : decode cX5_isIn 2 = .ok (.ifCond .lt 22, 3) := by decide +kernel
theorem dX5_isIn_5 : decode cX5_isIn 5 = .ok (.iload_n 2, 1) := by decide +kernel
theorem dX5_isIn_6 : decode cX5_isIn 6 = .ok (.aload_n 0, 1) := by decide +kernel
theorem dX5_isIn_7 : decode cX5_isIn 7 = .ok (.getfield 7, 3) := by decide +kernel
theorem dX5_isIn_10 : decode cX5_isIn 10 = .ok (.aload_n 0, 1) := by decide +kernel
theorem dX5_isIn_11 : decode cX5_isIn 11 = .ok (.getfield 26, 3) := by decide +kernel
theorem dX5_isIn_14 : decode cX5_isIn 14 = .ok (.iload_n 1, 1) := by decide +kernel
theorem dX5_isIn_15 : decode cX5_isIn 15 = .ok (.iaload, 1) := by decide +kernel
theorem dX5_isIn_16 : decode cX5_isIn 16 = .ok (.iaload, 1) := by decide +kernel
theorem dX5_isIn_17 : decode cX5_isIn 17 = .ok (.if_icmp .ge 7, 3) := by decide +kernel
theorem dX5_isIn_20 : decode cX5_isIn 20 = .ok (.iconst 1, 1) := by decide +kernel
theorem dX5_isIn_21 : decode cX5_isIn 21 = .ok (.goto 4, 3) := by decide +kernel
theorem dX5_isIn_24 : decode cX5_isIn 24 = .ok (.iconst 0, 1) := by decide +kernel
theorem dX5_isIn_25 : decode cX5_isIn 25 = .ok (.iconst 1, 1) := by decide +kernel
theorem dX5_isIn_26 : decode cX5_isIn 26 = .ok (.invokevirtual 52, 3) := by decide +kernel
theorem dX5_isIn_29 : decode cX5_isIn 29 = .ok (.ireturn, 1) := by decide +kernel
set_option maxRecDepth 20000 in
theorem ggX5_walk_X5_isNet : GoodIn wsX5_walk wsX5_isNet := goodIn_r _ [8, 9, 10, 11, 12, 13, 7, 14, 15, 16, 17, 18, 19, 20, 21, 22, 23, 24, 25, 26, 27, 28] (by decide +kernel) (by decide +kernel)
set_option maxRecDepth 20000 in
theorem gX5_walk_X5_isNet : GoodIn wsX5_walk (wsV RX5 56 RX5 yX5_isNet wsX5_isNet) := goodIn_app (goodIn_of _ (by decide +kernel)) ggX5_walk_X5_isNet
theorem dX5_walk_0 : decode cX5_walk 0 = .ok (.aload_n 0, 1) := by decide +kernel
theorem dX5_walk_1 : decode cX5_walk 1 = .ok (.iload_n 1, 1) := by decide +kernel
theorem dX5_walk_2 : decode cX5_walk 2 = .ok (.invokevirtual 56, 3) := by decide +kernel
theorem dX5_walk_5 : decode cX5_walk 5 = .ok (.ifCond .ne 5, 3) := by decide +kernel
theorem dX5_walk_8 : decode cX5_walk 8 = .ok (.iconst 0, 1) := by decide +kernel
theorem dX5_walk_9 : decode cX5_walk 9 = .ok (.ireturn, 1) := by decide +kernel
theorem dX5_walk_10 : decode cX5_walk 10 = .ok (.aload_n 0, 1) := by decide +kernel
theorem dX5_walk_11 : decode cX5_walk 11 = .ok (.getfield 75, 3) := by decide +kernel
theorem dX5_walk_14 : decode cX5_walk 14 = .ok (.bipush 12, 2) := by decide +kernel
theorem dX5_walk_16 : decode cX5_walk 16 = .ok (.if_icmp .ne 5, 3) := by decide +kernel
theorem dX5_walk_19 : decode cX5_walk 19 = .ok (.iconst (-1), 1) := by decide +kernel
theorem dX5_walk_20 : decode cX5_walk 20 = .ok (.ireturn, 1) := by decide +kernel
theorem dX5_walk_21 : decode cX5_walk 21 = .ok (.aload_n 0, 1) := by decide +kernel
theorem dX5_walk_22 : decode cX5_walk 22 = .ok (.getfield 26, 3) := by decide +kernel
theorem dX5_walk_25 : decode cX5_walk 25 = .ok (.aload_n 0, 1) := by decide +kernel
theorem dX5_walk_26 : decode cX5_walk 26 = .ok (.getfield 75, 3) := by decide +kernel
theorem dX5_walk_29 : decode cX5_walk 29 = .ok (.iload_n 1, 1) := by decide +kernel
theorem dX5_walk_30 : decode cX5_walk 30 = .ok (.iastore, 1) := by decide +kernel
theorem dX5_walk_31 : decode cX5_walk 31 = .ok (.aload_n 0, 1) := by decide +kernel
theorem dX5_walk_32 : decode cX5_walk 32 = .ok (.getfield 23, 3) := by decide +kernel
theorem dX5_walk_35 : decode cX5_walk 35 = .ok (.iload_n 1, 1) := by decide +kernel
theorem dX5_walk_36 : decode cX5_walk 36 = .ok (.iconst 1, 1) := by decide +kernel
theorem dX5_walk_37 : decode cX5_walk 37 = .ok (.bastore, 1) := by decide +kernel
theorem dX5_walk_38 : decode cX5_walk 38 = .ok (.aload_n 0, 1) := by decide +kernel
theorem dX5_walk_39 : decode cX5_walk 39 = .ok (.dup, 1) := by decide +kernel
theorem dX5_walk_40 : decode cX5_walk 40 = .ok (.getfield 75, 3) := by decide +kernel
theorem dX5_walk_43 : decode cX5_walk 43 = .ok (.iconst 1, 1) := by decide +kernel
theorem dX5_walk_44 : decode cX5_walk 44 = .ok (.iadd, 1) := by decide +kernel
theorem dX5_walk_45 : decode cX5_walk 45 = .ok (.putfield 75, 3) := by decide +kernel
theorem dX5_walk_48 : decode cX5_walk 48 = .ok (.aload_n 0, 1) := by decide +kernel
theorem dX5_walk_49 : decode cX5_walk 49 = .ok (.getfield 75, 3) := by decide +kernel
theorem dX5_walk_52 : decode cX5_walk 52 = .ok (.iconst 1, 1) := by decide +kernel
theorem dX5_walk_53 : decode cX5_walk 53 = .ok (.isub, 1) := by decide +kernel
theorem dX5_walk_54 : decode cX5_walk 54 = .ok (.ireturn, 1) := by decide +kernel
theorem dX5_scale_0 : decode cX5_scale 0 = .ok (.aload_n 0, 1) := by decide +kernel
theorem dX5_scale_1 : decode cX5_scale 1 = .ok (.getfield 13, 3) := by decide +kernel
theorem dX5_scale_4 : decode cX5_scale 4 = .ok (.aload_n 0, 1) := by decide +kernel
theorem dX5_scale_5 : decode cX5_scale 5 = .ok (.getfield 26, 3) := by decide +kernel
theorem dX5_scale_8 : decode cX5_scale 8 = .ok (.iload_n 1, 1) := by decide +kernel
theorem dX5_scale_9 : decode cX5_scale 9 = .ok (.iaload, 1) := by decide +kernel
theorem dX5_scale_10 : decode cX5_scale 10 = .ok (.iaload, 1) := by decide +kernel
theorem dX5_scale_11 : decode cX5_scale 11 = .ok (.istore_n 2, 1) := by decide +kernel
theorem dX5_scale_12 : decode cX5_scale 12 = .ok (.iload_n 2, 1) := by decide +kernel
theorem dX5_scale_13 : decode cX5_scale 13 = .ok (.iconst 2, 1) := by decide +kernel
theorem dX5_scale_14 : decode cX5_scale 14 = .ok (.if_icmp .ne 7, 3) := by decide +kernel
theorem dX5_scale_17 : decode cX5_scale 17 = .ok (.iconst 2, 1) := by decide +kernel
theorem dX5_scale_18 : decode cX5_scale 18 = .ok (.goto 14, 3) := by decide +kernel
theorem dX5_scale_21 : decode cX5_scale 21 = .ok (.iload_n 2, 1) := by decide +kernel
theorem dX5_scale_22 : decode cX5_scale 22 = .ok (.iconst 3, 1) := by decide +kernel
theorem dX5_scale_23 : decode cX5_scale 23 = .ok (.if_icmp .ne 8, 3) := by decide +kernel
theorem dX5_scale_26 : decode cX5_scale 26 = .ok (.bipush 9, 2) := by decide +kernel
theorem dX5_scale_28 : decode cX5_scale 28 = .ok (.goto 4, 3) := by decide +kernel
theorem dX5_scale_31 : decode cX5_scale 31 = .ok (.iconst 4, 1) := by decide +kernel
theorem dX5_scale_32 : decode cX5_scale 32 = .ok (.ireturn, 1) := by decide +kernel
theorem dX5_isSmall_0 : decode cX5_isSmall 0 = .ok (.lload_n 0, 1) := by decide +kernel
theorem dX5_isSmall_1 : decode cX5_isSmall 1 = .ok (.ldc2_w 78, 3) := by decide +kernel
theorem dX5_isSmall_4 : decode cX5_isSmall 4 = .ok (.lcmp, 1) := by decide +kernel
theorem dX5_isSmall_5 : decode cX5_isSmall 5 = .ok (.ifCond .lt 15, 3) := by decide +kernel
theorem dX5_isSmall_8 : decode cX5_isSmall 8 = .ok (.lload_n 0, 1) := by decide +kernel
theorem dX5_isSmall_9 : decode cX5_isSmall 9 = .ok (.ldc2_w 80, 3) := by decide +kernel
theorem dX5_isSmall_12 : decode cX5_isSmall 12 = .ok (.lcmp, 1) := by decide +kernel
theorem dX5_isSmall_13 : decode cX5_isSmall 13 = .ok (.ifCond .gt 7, 3) := by decide +kernel
theorem dX5_isSmall_16 : decode cX5_isSmall 16 = .ok (.iconst 1, 1) := by decide +kernel
theorem dX5_isSmall_17 : decode cX5_isSmall 17 = .ok (.goto 4, 3) := by decide +kernel
theorem dX5_isSmall_20 : decode cX5_isSmall 20 = .ok (.iconst 0, 1) := by decide +kernel
theorem dX5_isSmall_21 : decode cX5_isSmall 21 = .ok (.ireturn, 1) := by decide +kernel
set_option maxRecDepth 20000 in
theorem ggX5_set_X5_isWalk : GoodIn wsX5_set wsX5_isWalk := goodIn_r _ [8, 9, 10, 11, 12, 13, 7, 14, 26, 27, 28, 29, 30, 31, 32, 33, 34, 35, 36, 37, 38, 39] (by decide +kernel) (by decide +kernel)
set_option maxRecDepth 20000 in
theorem gX5_set_X5_isWalk : GoodIn wsX5_set (wsV RX5 82 RX5 yX5_isWalk wsX5_isWalk) := goodIn_app (goodIn_of _ (by decide +kernel)) ggX5_set_X5_isWalk
set_option maxRecDepth 20000 in
theorem ggX5_set_X5_isDoor : GoodIn wsX5_set wsX5_isDoor := goodIn_r _ [18, 19, 20, 11, 12, 13, 7, 14, 9, 26, 27, 28, 29, 30, 31, 32, 33, 34, 35, 36, 37, 38, 39] (by decide +kernel) (by decide +kernel)
set_option maxRecDepth 20000 in
theorem gX5_set_X5_isDoor : GoodIn wsX5_set (wsV RX5 60 RX5 yX5_isDoor wsX5_isDoor) := goodIn_app (goodIn_of _ (by decide +kernel)) ggX5_set_X5_isDoor
set_option maxRecDepth 20000 in
theorem ggX5_set_X5_isSmall : GoodIn wsX5_set wsX5_isSmall := goodIn_r _ [23, 24, 25] (by decide +kernel) (by decide +kernel)
set_option maxRecDepth 20000 in
theorem gX5_set_X5_isSmall : GoodIn wsX5_set (va_wsS RX5 85 yX5_isSmall wsX5_isSmall) := goodIn_app (goodIn_of _ (by decide +kernel)) ggX5_set_X5_isSmall
set_option maxRecDepth 20000 in
theorem ggX5_set_X5_right : GoodIn wsX5_set wsX5_right := goodIn_r _ [14, 9, 26, 27, 28, 29, 30, 31, 32, 33, 34, 35, 36, 37, 38, 39] (by decide +kernel) (by decide +kernel)
set_option maxRecDepth 20000 in
theorem gX5_set_X5_right : GoodIn wsX5_set (wsV RX5 52 RX5 yX5_right wsX5_right) := goodIn_app (goodIn_of _ (by decide +kernel)) ggX5_set_X5_right
theorem dX5_set_0 : decode cX5_set 0 = .ok (.aload_n 0, 1) := by decide +kernel
theorem dX5_set_1 : decode cX5_set 1 = .ok (.iload_n 1, 1) := by decide +kernel
theorem dX5_set_2 : decode cX5_set 2 = .ok (.invokevirtual 82, 3) := by decide +kernel
theorem dX5_set_5 : decode cX5_set 5 = .ok (.ifCond .eq 32, 3) := by decide +kernel
theorem dX5_set_8 : decode cX5_set 8 = .ok (.aload_n 0, 1) := by decide +kernel
theorem dX5_set_9 : decode cX5_set 9 = .ok (.aload_n 0, 1) := by decide +kernel
theorem dX5_set_10 : decode cX5_set 10 = .ok (.getfield 26, 3) := by decide +kernel
theorem dX5_set_13 : decode cX5_set 13 = .ok (.iload_n 1, 1) := by decide +kernel
theorem dX5_set_14 : decode cX5_set 14 = .ok (.iaload, 1) := by decide +kernel
theorem dX5_set_15 : decode cX5_set 15 = .ok (.iload_n 2, 1) := by decide +kernel
theorem dX5_set_16 : decode cX5_set 16 = .ok (.iload_n 3, 1) := by decide +kernel
theorem dX5_set_17 : decode cX5_set 17 = .ok (.invokevirtual 60, 3) := by decide +kernel
theorem dX5_set_20 : decode cX5_set 20 = .ok (.ifCond .eq 17, 3) := by decide +kernel
theorem dX5_set_23 : decode cX5_set 23 = .ok (.aload_n 0, 1) := by decide +kernel
theorem dX5_set_24 : decode cX5_set 24 = .ok (.iload 4, 2) := by decide +kernel
theorem dX5_set_26 : decode cX5_set 26 = .ok (.i2l, 1) := by decide +kernel
theorem dX5_set_27 : decode cX5_set 27 = .ok (.invokestatic 85, 3) := by decide +kernel
theorem dX5_set_30 : decode cX5_set 30 = .ok (.iconst 2, 1) := by decide +kernel
theorem dX5_set_31 : decode cX5_set 31 = .ok (.invokevirtual 52, 3) := by decide +kernel
theorem dX5_set_34 : decode cX5_set 34 = .ok (.ifCond .ne 5, 3) := by decide +kernel
theorem dX5_set_37 : decode cX5_set 37 = .ok (.iconst 0, 1) := by decide +kernel
theorem dX5_set_38 : decode cX5_set 38 = .ok (.ireturn, 1) := by decide +kernel
theorem dX5_set_39 : decode cX5_set 39 = .ok (.iconst 0, 1) := by decide +kernel
theorem dX5_set_40 : decode cX5_set 40 = .ok (.istore 5, 2) := by decide +kernel
theorem dX5_set_42 : decode cX5_set 42 = .ok (.iload 5, 2) := by decide +kernel
theorem dX5_set_44 : decode cX5_set 44 = .ok (.bipush 48, 2) := by decide +kernel
theorem dX5_set_46 : decode cX5_set 46 = .ok (.if_icmp .ge 39, 3) := by decide +kernel
theorem dX5_set_49 : decode cX5_set 49 = .ok (.iload 5, 2) := by decide +kernel
theorem dX5_set_51 : decode cX5_set 51 = .ok (.iconst 4, 1) := by decide +kernel
theorem dX5_set_52 : decode cX5_set 52 = .ok (.iload_n 2, 1) := by decide +kernel
theorem dX5_set_53 : decode cX5_set 53 = .ok (.imul, 1) := by decide +kernel
theorem dX5_set_54 : decode cX5_set 54 = .ok (.iload_n 3, 1) := by decide +kernel
theorem dX5_set_55 : decode cX5_set 55 = .ok (.iadd, 1) := by decide +kernel
theorem dX5_set_56 : decode cX5_set 56 = .ok (.if_icmp .eq 23, 3) := by decide +kernel
theorem dX5_set_59 : decode cX5_set 59 = .ok (.aload_n 0, 1) := by decide +kernel
theorem dX5_set_60 : decode cX5_set 60 = .ok (.getfield 32, 3) := by decide +kernel
theorem dX5_set_63 : decode cX5_set 63 = .ok (.bipush 48, 2) := by decide +kernel
theorem dX5_set_65 : decode cX5_set 65 = .ok (.iload_n 1, 1) := by decide +kernel
theorem dX5_set_66 : decode cX5_set 66 = .ok (.imul, 1) := by decide +kernel
theorem dX5_set_67 : decode cX5_set 67 = .ok (.iload 5, 2) := by decide +kernel
theorem dX5_set_69 : decode cX5_set 69 = .ok (.iadd, 1) := by decide +kernel
theorem dX5_set_70 : decode cX5_set 70 = .ok (.laload, 1) := by decide +kernel
theorem dX5_set_71 : decode cX5_set 71 = .ok (.invokestatic 85, 3) := by decide +kernel
theorem dX5_set_74 : decode cX5_set 74 = .ok (.ifCond .ne 5, 3) := by decide +kernel
theorem dX5_set_77 : decode cX5_set 77 = .ok (.iconst 0, 1) := by decide +kernel
theorem dX5_set_78 : decode cX5_set 78 = .ok (.ireturn, 1) := by decide +kernel
theorem dX5_set_79 : decode cX5_set 79 = .ok (.iinc 5 1, 3) := by decide +kernel
theorem dX5_set_82 : decode cX5_set 82 = .ok (.goto (-40), 3) := by decide +kernel
theorem dX5_set_85 : decode cX5_set 85 = .ok (.aload_n 0, 1) := by decide +kernel
theorem dX5_set_86 : decode cX5_set 86 = .ok (.getfield 32, 3) := by decide +kernel
theorem dX5_set_89 : decode cX5_set 89 = .ok (.bipush 48, 2) := by decide +kernel
theorem dX5_set_91 : decode cX5_set 91 = .ok (.iload_n 1, 1) := by decide +kernel
theorem dX5_set_92 : decode cX5_set 92 = .ok (.imul, 1) := by decide +kernel
theorem dX5_set_93 : decode cX5_set 93 = .ok (.iconst 4, 1) := by decide +kernel
theorem dX5_set_94 : decode cX5_set 94 = .ok (.iload_n 2, 1) := by decide +kernel
theorem dX5_set_95 : decode cX5_set 95 = .ok (.imul, 1) := by decide +kernel
theorem dX5_set_96 : decode cX5_set 96 = .ok (.iadd, 1) := by decide +kernel
theorem dX5_set_97 : decode cX5_set 97 = .ok (.iload_n 3, 1) := by decide +kernel
theorem dX5_set_98 : decode cX5_set 98 = .ok (.iadd, 1) := by decide +kernel
theorem dX5_set_99 : decode cX5_set 99 = .ok (.iload 4, 2) := by decide +kernel
theorem dX5_set_101 : decode cX5_set 101 = .ok (.i2l, 1) := by decide +kernel
theorem dX5_set_102 : decode cX5_set 102 = .ok (.lastore, 1) := by decide +kernel
theorem dX5_set_103 : decode cX5_set 103 = .ok (.aload_n 0, 1) := by decide +kernel
theorem dX5_set_104 : decode cX5_set 104 = .ok (.getfield 29, 3) := by decide +kernel
theorem dX5_set_107 : decode cX5_set 107 = .ok (.iload_n 1, 1) := by decide +kernel
theorem dX5_set_108 : decode cX5_set 108 = .ok (.iconst 0, 1) := by decide +kernel
theorem dX5_set_109 : decode cX5_set 109 = .ok (.iastore, 1) := by decide +kernel
theorem dX5_set_110 : decode cX5_set 110 = .ok (.iconst 1, 1) := by decide +kernel
theorem dX5_set_111 : decode cX5_set 111 = .ok (.ireturn, 1) := by decide +kernel
set_option maxRecDepth 20000 in
theorem ggX5_spread_X5_isWalk : GoodIn wsX5_spread wsX5_isWalk := goodIn_r _ [10, 11, 12, 13, 14, 15, 9, 16, 22, 23, 24, 25, 26, 27, 28, 29, 30, 31, 32, 33, 34, 35] (by decide +kernel) (by decide +kernel)
set_option maxRecDepth 20000 in
theorem gX5_spread_X5_isWalk : GoodIn wsX5_spread (wsV RX5 82 RX5 yX5_isWalk wsX5_isWalk) := goodIn_app (goodIn_of _ (by decide +kernel)) ggX5_spread_X5_isWalk
set_option maxRecDepth 20000 in
theorem ggX5_spread_X5_isSmall : GoodIn wsX5_spread wsX5_isSmall := goodIn_r _ [19, 20, 21] (by decide +kernel) (by decide +kernel)
set_option maxRecDepth 20000 in
theorem gX5_spread_X5_isSmall : GoodIn wsX5_spread (va_wsS RX5 85 yX5_isSmall wsX5_isSmall) := goodIn_app (goodIn_of _ (by decide +kernel)) ggX5_spread_X5_isSmall
set_option maxRecDepth 20000 in
theorem ggX5_spread_X5_right : GoodIn wsX5_spread wsX5_right := goodIn_r _ [16, 11, 22, 23, 24, 25, 26, 27, 28, 29, 30, 31, 32, 33, 34, 35] (by decide +kernel) (by decide +kernel)
set_option maxRecDepth 20000 in
theorem gX5_spread_X5_right : GoodIn wsX5_spread (wsV RX5 52 RX5 yX5_right wsX5_right) := goodIn_app (goodIn_of _ (by decide +kernel)) ggX5_spread_X5_right
theorem dX5_spread_0 : decode cX5_spread 0 = .ok (.aload_n 0, 1) := by decide +kernel
theorem dX5_spread_1 : decode cX5_spread 1 = .ok (.iload_n 1, 1) := by decide +kernel
theorem dX5_spread_2 : decode cX5_spread 2 = .ok (.invokevirtual 82, 3) := by decide +kernel
theorem dX5_spread_5 : decode cX5_spread 5 = .ok (.ifCond .eq 16, 3) := by decide +kernel
theorem dX5_spread_8 : decode cX5_spread 8 = .ok (.aload_n 0, 1) := by decide +kernel
theorem dX5_spread_9 : decode cX5_spread 9 = .ok (.iload_n 2, 1) := by decide +kernel
theorem dX5_spread_10 : decode cX5_spread 10 = .ok (.i2l, 1) := by decide +kernel
theorem dX5_spread_11 : decode cX5_spread 11 = .ok (.invokestatic 85, 3) := by decide +kernel
theorem dX5_spread_14 : decode cX5_spread 14 = .ok (.iconst 2, 1) := by decide +kernel
theorem dX5_spread_15 : decode cX5_spread 15 = .ok (.invokevirtual 52, 3) := by decide +kernel
theorem dX5_spread_18 : decode cX5_spread 18 = .ok (.ifCond .ne 4, 3) := by decide +kernel
theorem dX5_spread_21 : decode cX5_spread 21 = .ok (.return_, 1) := by decide +kernel
theorem dX5_spread_22 : decode cX5_spread 22 = .ok (.iconst 0, 1) := by decide +kernel
theorem dX5_spread_23 : decode cX5_spread 23 = .ok (.istore_n 3, 1) := by decide +kernel
theorem dX5_spread_24 : decode cX5_spread 24 = .ok (.iload_n 3, 1) := by decide +kernel
theorem dX5_spread_25 : decode cX5_spread 25 = .ok (.aload_n 0, 1) := by decide +kernel
theorem dX5_spread_26 : decode cX5_spread 26 = .ok (.getfield 7, 3) := by decide +kernel
theorem dX5_spread_29 : decode cX5_spread 29 = .ok (.aload_n 0, 1) := by decide +kernel
theorem dX5_spread_30 : decode cX5_spread 30 = .ok (.getfield 26, 3) := by decide +kernel
theorem dX5_spread_33 : decode cX5_spread 33 = .ok (.iload_n 1, 1) := by decide +kernel
theorem dX5_spread_34 : decode cX5_spread 34 = .ok (.iaload, 1) := by decide +kernel
theorem dX5_spread_35 : decode cX5_spread 35 = .ok (.iaload, 1) := by decide +kernel
theorem dX5_spread_36 : decode cX5_spread 36 = .ok (.if_icmp .ge 52, 3) := by decide +kernel
theorem dX5_spread_39 : decode cX5_spread 39 = .ok (.iconst 0, 1) := by decide +kernel
theorem dX5_spread_40 : decode cX5_spread 40 = .ok (.istore 4, 2) := by decide +kernel
theorem dX5_spread_42 : decode cX5_spread 42 = .ok (.iload 4, 2) := by decide +kernel
theorem dX5_spread_44 : decode cX5_spread 44 = .ok (.aload_n 0, 1) := by decide +kernel
theorem dX5_spread_45 : decode cX5_spread 45 = .ok (.getfield 13, 3) := by decide +kernel
theorem dX5_spread_48 : decode cX5_spread 48 = .ok (.aload_n 0, 1) := by decide +kernel
theorem dX5_spread_49 : decode cX5_spread 49 = .ok (.getfield 26, 3) := by decide +kernel
theorem dX5_spread_52 : decode cX5_spread 52 = .ok (.iload_n 1, 1) := by decide +kernel
theorem dX5_spread_53 : decode cX5_spread 53 = .ok (.iaload, 1) := by decide +kernel
theorem dX5_spread_54 : decode cX5_spread 54 = .ok (.iaload, 1) := by decide +kernel
theorem dX5_spread_55 : decode cX5_spread 55 = .ok (.if_icmp .ge 27, 3) := by decide +kernel
theorem dX5_spread_58 : decode cX5_spread 58 = .ok (.aload_n 0, 1) := by decide +kernel
theorem dX5_spread_59 : decode cX5_spread 59 = .ok (.getfield 32, 3) := by decide +kernel
theorem dX5_spread_62 : decode cX5_spread 62 = .ok (.bipush 48, 2) := by decide +kernel
theorem dX5_spread_64 : decode cX5_spread 64 = .ok (.iload_n 1, 1) := by decide +kernel
theorem dX5_spread_65 : decode cX5_spread 65 = .ok (.imul, 1) := by decide +kernel
theorem dX5_spread_66 : decode cX5_spread 66 = .ok (.iconst 4, 1) := by decide +kernel
theorem dX5_spread_67 : decode cX5_spread 67 = .ok (.iload_n 3, 1) := by decide +kernel
theorem dX5_spread_68 : decode cX5_spread 68 = .ok (.imul, 1) := by decide +kernel
theorem dX5_spread_69 : decode cX5_spread 69 = .ok (.iadd, 1) := by decide +kernel
theorem dX5_spread_70 : decode cX5_spread 70 = .ok (.iload 4, 2) := by decide +kernel
theorem dX5_spread_72 : decode cX5_spread 72 = .ok (.iadd, 1) := by decide +kernel
theorem dX5_spread_73 : decode cX5_spread 73 = .ok (.iload_n 2, 1) := by decide +kernel
theorem dX5_spread_74 : decode cX5_spread 74 = .ok (.i2l, 1) := by decide +kernel
theorem dX5_spread_75 : decode cX5_spread 75 = .ok (.lastore, 1) := by decide +kernel
theorem dX5_spread_76 : decode cX5_spread 76 = .ok (.iinc 4 1, 3) := by decide +kernel
theorem dX5_spread_79 : decode cX5_spread 79 = .ok (.goto (-37), 3) := by decide +kernel
theorem dX5_spread_82 : decode cX5_spread 82 = .ok (.iinc 3 1, 3) := by decide +kernel
theorem dX5_spread_85 : decode cX5_spread 85 = .ok (.goto (-61), 3) := by decide +kernel
theorem dX5_spread_88 : decode cX5_spread 88 = .ok (.aload_n 0, 1) := by decide +kernel
theorem dX5_spread_89 : decode cX5_spread 89 = .ok (.getfield 29, 3) := by decide +kernel
theorem dX5_spread_92 : decode cX5_spread 92 = .ok (.iload_n 1, 1) := by decide +kernel
theorem dX5_spread_93 : decode cX5_spread 93 = .ok (.iconst 0, 1) := by decide +kernel
theorem dX5_spread_94 : decode cX5_spread 94 = .ok (.iastore, 1) := by decide +kernel
theorem dX5_spread_95 : decode cX5_spread 95 = .ok (.return_, 1) := by decide +kernel
theorem dX5_shareOf_0 : decode cX5_shareOf 0 = .ok (.lconst 0, 1) := by decide +kernel
theorem dX5_shareOf_1 : decode cX5_shareOf 1 = .ok (.lstore_n 3, 1) := by decide +kernel
theorem dX5_shareOf_2 : decode cX5_shareOf 2 = .ok (.iconst 0, 1) := by decide +kernel
theorem dX5_shareOf_3 : decode cX5_shareOf 3 = .ok (.istore 5, 2) := by decide +kernel
theorem dX5_shareOf_5 : decode cX5_shareOf 5 = .ok (.iload 5, 2) := by decide +kernel
theorem dX5_shareOf_7 : decode cX5_shareOf 7 = .ok (.iconst 4, 1) := by decide +kernel
theorem dX5_shareOf_8 : decode cX5_shareOf 8 = .ok (.if_icmp .ge 45, 3) := by decide +kernel
theorem dX5_shareOf_11 : decode cX5_shareOf 11 = .ok (.lload_n 3, 1) := by decide +kernel
theorem dX5_shareOf_12 : decode cX5_shareOf 12 = .ok (.aload_n 0, 1) := by decide +kernel
theorem dX5_shareOf_13 : decode cX5_shareOf 13 = .ok (.getfield 32, 3) := by decide +kernel
theorem dX5_shareOf_16 : decode cX5_shareOf 16 = .ok (.bipush 48, 2) := by decide +kernel
theorem dX5_shareOf_18 : decode cX5_shareOf 18 = .ok (.iload_n 1, 1) := by decide +kernel
theorem dX5_shareOf_19 : decode cX5_shareOf 19 = .ok (.imul, 1) := by decide +kernel
theorem dX5_shareOf_20 : decode cX5_shareOf 20 = .ok (.iconst 4, 1) := by decide +kernel
theorem dX5_shareOf_21 : decode cX5_shareOf 21 = .ok (.iload_n 2, 1) := by decide +kernel
theorem dX5_shareOf_22 : decode cX5_shareOf 22 = .ok (.imul, 1) := by decide +kernel
theorem dX5_shareOf_23 : decode cX5_shareOf 23 = .ok (.iadd, 1) := by decide +kernel
theorem dX5_shareOf_24 : decode cX5_shareOf 24 = .ok (.iload 5, 2) := by decide +kernel
theorem dX5_shareOf_26 : decode cX5_shareOf 26 = .ok (.iadd, 1) := by decide +kernel
theorem dX5_shareOf_27 : decode cX5_shareOf 27 = .ok (.laload, 1) := by decide +kernel
theorem dX5_shareOf_28 : decode cX5_shareOf 28 = .ok (.aload_n 0, 1) := by decide +kernel
theorem dX5_shareOf_29 : decode cX5_shareOf 29 = .ok (.getfield 32, 3) := by decide +kernel
theorem dX5_shareOf_32 : decode cX5_shareOf 32 = .ok (.bipush 48, 2) := by decide +kernel
theorem dX5_shareOf_34 : decode cX5_shareOf 34 = .ok (.iload_n 1, 1) := by decide +kernel
theorem dX5_shareOf_35 : decode cX5_shareOf 35 = .ok (.imul, 1) := by decide +kernel
theorem dX5_shareOf_36 : decode cX5_shareOf 36 = .ok (.iconst 4, 1) := by decide +kernel
theorem dX5_shareOf_37 : decode cX5_shareOf 37 = .ok (.iload_n 2, 1) := by decide +kernel
theorem dX5_shareOf_38 : decode cX5_shareOf 38 = .ok (.imul, 1) := by decide +kernel
theorem dX5_shareOf_39 : decode cX5_shareOf 39 = .ok (.iadd, 1) := by decide +kernel
theorem dX5_shareOf_40 : decode cX5_shareOf 40 = .ok (.iload 5, 2) := by decide +kernel
theorem dX5_shareOf_42 : decode cX5_shareOf 42 = .ok (.iadd, 1) := by decide +kernel
theorem dX5_shareOf_43 : decode cX5_shareOf 43 = .ok (.laload, 1) := by decide +kernel
theorem dX5_shareOf_44 : decode cX5_shareOf 44 = .ok (.lmul, 1) := by decide +kernel
theorem dX5_shareOf_45 : decode cX5_shareOf 45 = .ok (.ladd, 1) := by decide +kernel
theorem dX5_shareOf_46 : decode cX5_shareOf 46 = .ok (.lstore_n 3, 1) := by decide +kernel
theorem dX5_shareOf_47 : decode cX5_shareOf 47 = .ok (.iinc 5 1, 3) := by decide +kernel
theorem dX5_shareOf_50 : decode cX5_shareOf 50 = .ok (.goto (-45), 3) := by decide +kernel
theorem dX5_shareOf_53 : decode cX5_shareOf 53 = .ok (.lload_n 3, 1) := by decide +kernel
theorem dX5_shareOf_54 : decode cX5_shareOf 54 = .ok (.lreturn, 1) := by decide +kernel
set_option maxRecDepth 20000 in
theorem ggX5_weight_X5_shareOf : GoodIn wsX5_weight wsX5_shareOf := goodIn_r _ [5, 6, 7, 8, 9, 10, 11, 12, 13, 14, 15, 16, 17, 18, 19, 20] (by decide +kernel) (by decide +kernel)
set_option maxRecDepth 20000 in
theorem gX5_weight_X5_shareOf : GoodIn wsX5_weight (wsV RX5 89 RX5 yX5_shareOf wsX5_shareOf) := goodIn_app (goodIn_of _ (by decide +kernel)) ggX5_weight_X5_shareOf
theorem dX5_weight_0 : decode cX5_weight 0 = .ok (.lconst 0, 1) := by decide +kernel
theorem dX5_weight_1 : decode cX5_weight 1 = .ok (.lstore_n 2, 1) := by decide +kernel
theorem dX5_weight_2 : decode cX5_weight 2 = .ok (.iconst 0, 1) := by decide +kernel
theorem dX5_weight_3 : decode cX5_weight 3 = .ok (.istore 4, 2) := by decide +kernel
theorem dX5_weight_5 : decode cX5_weight 5 = .ok (.iload 4, 2) := by decide +kernel
theorem dX5_weight_7 : decode cX5_weight 7 = .ok (.bipush 12, 2) := by decide +kernel
theorem dX5_weight_9 : decode cX5_weight 9 = .ok (.if_icmp .ge 19, 3) := by decide +kernel
theorem dX5_weight_12 : decode cX5_weight 12 = .ok (.lload_n 2, 1) := by decide +kernel
theorem dX5_weight_13 : decode cX5_weight 13 = .ok (.aload_n 0, 1) := by decide +kernel
theorem dX5_weight_14 : decode cX5_weight 14 = .ok (.iload_n 1, 1) := by decide +kernel
theorem dX5_weight_15 : decode cX5_weight 15 = .ok (.iload 4, 2) := by decide +kernel
theorem dX5_weight_17 : decode cX5_weight 17 = .ok (.invokevirtual 89, 3) := by decide +kernel
theorem dX5_weight_20 : decode cX5_weight 20 = .ok (.ladd, 1) := by decide +kernel
theorem dX5_weight_21 : decode cX5_weight 21 = .ok (.lstore_n 2, 1) := by decide +kernel
theorem dX5_weight_22 : decode cX5_weight 22 = .ok (.iinc 4 1, 3) := by decide +kernel
theorem dX5_weight_25 : decode cX5_weight 25 = .ok (.goto (-20), 3) := by decide +kernel
theorem dX5_weight_28 : decode cX5_weight 28 = .ok (.lload_n 2, 1) := by decide +kernel
theorem dX5_weight_29 : decode cX5_weight 29 = .ok (.lreturn, 1) := by decide +kernel
set_option maxRecDepth 20000 in
theorem ggX5_goesOn_X5_weight : GoodIn wsX5_goesOn wsX5_weight := goodIn_r _ [7, 8, 9, 10, 6, 11, 12, 19, 20, 21, 22, 23, 24, 25, 26, 27, 28, 29, 30, 31, 32] (by decide +kernel) (by decide +kernel)
set_option maxRecDepth 20000 in
theorem gX5_goesOn_X5_weight : GoodIn wsX5_goesOn (wsV RX5 93 RX5 yX5_weight wsX5_weight) := goodIn_app (goodIn_of _ (by decide +kernel)) ggX5_goesOn_X5_weight
set_option maxRecDepth 20000 in
theorem ggX5_goesOn_X5_scale : GoodIn wsX5_goesOn wsX5_scale := goodIn_r _ [16, 17, 18, 19, 20, 21, 22, 23, 24, 25, 26, 27, 28, 29, 30, 31, 32] (by decide +kernel) (by decide +kernel)
set_option maxRecDepth 20000 in
theorem gX5_goesOn_X5_scale : GoodIn wsX5_goesOn (wsV RX5 99 RX5 yX5_scale wsX5_scale) := goodIn_app (goodIn_of _ (by decide +kernel)) ggX5_goesOn_X5_scale
theorem dX5_goesOn_0 : decode cX5_goesOn 0 = .ok (.aload_n 0, 1) := by decide +kernel
theorem dX5_goesOn_1 : decode cX5_goesOn 1 = .ok (.getfield 29, 3) := by decide +kernel
theorem dX5_goesOn_4 : decode cX5_goesOn 4 = .ok (.iload_n 1, 1) := by decide +kernel
theorem dX5_goesOn_5 : decode cX5_goesOn 5 = .ok (.iaload, 1) := by decide +kernel
theorem dX5_goesOn_6 : decode cX5_goesOn 6 = .ok (.bipush 60, 2) := by decide +kernel
theorem dX5_goesOn_8 : decode cX5_goesOn 8 = .ok (.if_icmp .ge 26, 3) := by decide +kernel
theorem dX5_goesOn_11 : decode cX5_goesOn 11 = .ok (.aload_n 0, 1) := by decide +kernel
theorem dX5_goesOn_12 : decode cX5_goesOn 12 = .ok (.iload_n 1, 1) := by decide +kernel
theorem dX5_goesOn_13 : decode cX5_goesOn 13 = .ok (.invokevirtual 93, 3) := by decide +kernel
theorem dX5_goesOn_16 : decode cX5_goesOn 16 = .ok (.ldc2_w 97, 3) := by decide +kernel
theorem dX5_goesOn_19 : decode cX5_goesOn 19 = .ok (.aload_n 0, 1) := by decide +kernel
theorem dX5_goesOn_20 : decode cX5_goesOn 20 = .ok (.iload_n 1, 1) := by decide +kernel
theorem dX5_goesOn_21 : decode cX5_goesOn 21 = .ok (.invokevirtual 99, 3) := by decide +kernel
theorem dX5_goesOn_24 : decode cX5_goesOn 24 = .ok (.i2l, 1) := by decide +kernel
theorem dX5_goesOn_25 : decode cX5_goesOn 25 = .ok (.ldiv, 1) := by decide +kernel
theorem dX5_goesOn_26 : decode cX5_goesOn 26 = .ok (.lcmp, 1) := by decide +kernel
theorem dX5_goesOn_27 : decode cX5_goesOn 27 = .ok (.ifCond .gt 7, 3) := by decide +kernel
theorem dX5_goesOn_30 : decode cX5_goesOn 30 = .ok (.iconst 1, 1) := by decide +kernel
theorem dX5_goesOn_31 : decode cX5_goesOn 31 = .ok (.goto 4, 3) := by decide +kernel
theorem dX5_goesOn_34 : decode cX5_goesOn 34 = .ok (.iconst 0, 1) := by decide +kernel
theorem dX5_goesOn_35 : decode cX5_goesOn 35 = .ok (.ireturn, 1) := by decide +kernel
theorem dX5_turns_0 : decode cX5_turns 0 = .ok (.aload_n 0, 1) := by decide +kernel
theorem dX5_turns_1 : decode cX5_turns 1 = .ok (.getfield 26, 3) := by decide +kernel
theorem dX5_turns_4 : decode cX5_turns 4 = .ok (.iload_n 1, 1) := by decide +kernel
theorem dX5_turns_5 : decode cX5_turns 5 = .ok (.iaload, 1) := by decide +kernel
theorem dX5_turns_6 : decode cX5_turns 6 = .ok (.istore_n 2, 1) := by decide +kernel
theorem dX5_turns_7 : decode cX5_turns 7 = .ok (.aload_n 0, 1) := by decide +kernel
theorem dX5_turns_8 : decode cX5_turns 8 = .ok (.getfield 13, 3) := by decide +kernel
theorem dX5_turns_11 : decode cX5_turns 11 = .ok (.iload_n 2, 1) := by decide +kernel
theorem dX5_turns_12 : decode cX5_turns 12 = .ok (.iaload, 1) := by decide +kernel
theorem dX5_turns_13 : decode cX5_turns 13 = .ok (.istore_n 3, 1) := by decide +kernel
theorem dX5_turns_14 : decode cX5_turns 14 = .ok (.iconst 0, 1) := by decide +kernel
theorem dX5_turns_15 : decode cX5_turns 15 = .ok (.istore 4, 2) := by decide +kernel
theorem dX5_turns_17 : decode cX5_turns 17 = .ok (.iload 4, 2) := by decide +kernel
theorem dX5_turns_19 : decode cX5_turns 19 = .ok (.aload_n 0, 1) := by decide +kernel
theorem dX5_turns_20 : decode cX5_turns 20 = .ok (.getfield 7, 3) := by decide +kernel
theorem dX5_turns_23 : decode cX5_turns 23 = .ok (.iload_n 2, 1) := by decide +kernel
theorem dX5_turns_24 : decode cX5_turns 24 = .ok (.iaload, 1) := by decide +kernel
theorem dX5_turns_25 : decode cX5_turns 25 = .ok (.if_icmp .ge 171, 3) := by decide +kernel
theorem dX5_turns_28 : decode cX5_turns 28 = .ok (.bipush 48, 2) := by decide +kernel
theorem dX5_turns_30 : decode cX5_turns 30 = .ok (.iload_n 1, 1) := by decide +kernel
theorem dX5_turns_31 : decode cX5_turns 31 = .ok (.imul, 1) := by decide +kernel
theorem dX5_turns_32 : decode cX5_turns 32 = .ok (.iconst 4, 1) := by decide +kernel
theorem dX5_turns_33 : decode cX5_turns 33 = .ok (.iload 4, 2) := by decide +kernel
theorem dX5_turns_35 : decode cX5_turns 35 = .ok (.imul, 1) := by decide +kernel
theorem dX5_turns_36 : decode cX5_turns 36 = .ok (.iadd, 1) := by decide +kernel
theorem dX5_turns_37 : decode cX5_turns 37 = .ok (.istore 5, 2) := by decide +kernel
theorem dX5_turns_39 : decode cX5_turns 39 = .ok (.lconst 0, 1) := by decide +kernel
theorem dX5_turns_40 : decode cX5_turns 40 = .ok (.lstore 6, 2) := by decide +kernel
theorem dX5_turns_42 : decode cX5_turns 42 = .ok (.iconst 0, 1) := by decide +kernel
theorem dX5_turns_43 : decode cX5_turns 43 = .ok (.istore 8, 2) := by decide +kernel
theorem dX5_turns_45 : decode cX5_turns 45 = .ok (.iload 8, 2) := by decide +kernel
theorem dX5_turns_47 : decode cX5_turns 47 = .ok (.iload_n 3, 1) := by decide +kernel
theorem dX5_turns_48 : decode cX5_turns 48 = .ok (.if_icmp .ge 24, 3) := by decide +kernel
theorem dX5_turns_51 : decode cX5_turns 51 = .ok (.lload 6, 2) := by decide +kernel
theorem dX5_turns_53 : decode cX5_turns 53 = .ok (.aload_n 0, 1) := by decide +kernel
theorem dX5_turns_54 : decode cX5_turns 54 = .ok (.getfield 32, 3) := by decide +kernel
theorem dX5_turns_57 : decode cX5_turns 57 = .ok (.iload 5, 2) := by decide +kernel
theorem dX5_turns_59 : decode cX5_turns 59 = .ok (.iload 8, 2) := by decide +kernel
theorem dX5_turns_61 : decode cX5_turns 61 = .ok (.iadd, 1) := by decide +kernel
theorem dX5_turns_62 : decode cX5_turns 62 = .ok (.laload, 1) := by decide +kernel
theorem dX5_turns_63 : decode cX5_turns 63 = .ok (.ladd, 1) := by decide +kernel
theorem dX5_turns_64 : decode cX5_turns 64 = .ok (.lstore 6, 2) := by decide +kernel
theorem dX5_turns_66 : decode cX5_turns 66 = .ok (.iinc 8 1, 3) := by decide +kernel
theorem dX5_turns_69 : decode cX5_turns 69 = .ok (.goto (-24), 3) := by decide +kernel
theorem dX5_turns_72 : decode cX5_turns 72 = .ok (.iload_n 3, 1) := by decide +kernel
theorem dX5_turns_73 : decode cX5_turns 73 = .ok (.iconst 2, 1) := by decide +kernel
theorem dX5_turns_74 : decode cX5_turns 74 = .ok (.if_icmp .ne 45, 3) := by decide +kernel
theorem dX5_turns_77 : decode cX5_turns 77 = .ok (.aload_n 0, 1) := by decide +kernel
theorem dX5_turns_78 : decode cX5_turns 78 = .ok (.getfield 32, 3) := by decide +kernel
theorem dX5_turns_81 : decode cX5_turns 81 = .ok (.iload 5, 2) := by decide +kernel
theorem dX5_turns_83 : decode cX5_turns 83 = .ok (.laload, 1) := by decide +kernel
theorem dX5_turns_84 : decode cX5_turns 84 = .ok (.aload_n 0, 1) := by decide +kernel
theorem dX5_turns_85 : decode cX5_turns 85 = .ok (.getfield 32, 3) := by decide +kernel
theorem dX5_turns_88 : decode cX5_turns 88 = .ok (.iload 5, 2) := by decide +kernel
theorem dX5_turns_90 : decode cX5_turns 90 = .ok (.iconst 1, 1) := by decide +kernel
theorem dX5_turns_91 : decode cX5_turns 91 = .ok (.iadd, 1) := by decide +kernel
theorem dX5_turns_92 : decode cX5_turns 92 = .ok (.laload, 1) := by decide +kernel
theorem dX5_turns_93 : decode cX5_turns 93 = .ok (.lsub, 1) := by decide +kernel
theorem dX5_turns_94 : decode cX5_turns 94 = .ok (.lstore 8, 2) := by decide +kernel
theorem dX5_turns_96 : decode cX5_turns 96 = .ok (.aload_n 0, 1) := by decide +kernel
theorem dX5_turns_97 : decode cX5_turns 97 = .ok (.getfield 32, 3) := by decide +kernel
theorem dX5_turns_100 : decode cX5_turns 100 = .ok (.iload 5, 2) := by decide +kernel
theorem dX5_turns_102 : decode cX5_turns 102 = .ok (.lload 6, 2) := by decide +kernel
theorem dX5_turns_104 : decode cX5_turns 104 = .ok (.lastore, 1) := by decide +kernel
theorem dX5_turns_105 : decode cX5_turns 105 = .ok (.aload_n 0, 1) := by decide +kernel
theorem dX5_turns_106 : decode cX5_turns 106 = .ok (.getfield 32, 3) := by decide +kernel
theorem dX5_turns_109 : decode cX5_turns 109 = .ok (.iload 5, 2) := by decide +kernel
theorem dX5_turns_111 : decode cX5_turns 111 = .ok (.iconst 1, 1) := by decide +kernel
theorem dX5_turns_112 : decode cX5_turns 112 = .ok (.iadd, 1) := by decide +kernel
theorem dX5_turns_113 : decode cX5_turns 113 = .ok (.lload 8, 2) := by decide +kernel
theorem dX5_turns_115 : decode cX5_turns 115 = .ok (.lastore, 1) := by decide +kernel
theorem dX5_turns_116 : decode cX5_turns 116 = .ok (.goto 74, 3) := by decide +kernel
theorem dX5_turns_119 : decode cX5_turns 119 = .ok (.iconst 0, 1) := by decide +kernel
theorem dX5_turns_120 : decode cX5_turns 120 = .ok (.istore 8, 2) := by decide +kernel
theorem dX5_turns_122 : decode cX5_turns 122 = .ok (.iload 8, 2) := by decide +kernel
theorem dX5_turns_124 : decode cX5_turns 124 = .ok (.iload_n 3, 1) := by decide +kernel
theorem dX5_turns_125 : decode cX5_turns 125 = .ok (.if_icmp .ge 65, 3) := by decide +kernel
theorem dX5_turns_128 : decode cX5_turns 128 = .ok (.aload_n 0, 1) := by decide +kernel
theorem dX5_turns_129 : decode cX5_turns 129 = .ok (.getfield 32, 3) := by decide +kernel
theorem dX5_turns_132 : decode cX5_turns 132 = .ok (.iload 5, 2) := by decide +kernel
theorem dX5_turns_134 : decode cX5_turns 134 = .ok (.iload 8, 2) := by decide +kernel
theorem dX5_turns_136 : decode cX5_turns 136 = .ok (.iadd, 1) := by decide +kernel
theorem dX5_turns_137 : decode cX5_turns 137 = .ok (.iload_n 3, 1) := by decide +kernel
theorem dX5_turns_138 : decode cX5_turns 138 = .ok (.iconst 3, 1) := by decide +kernel
theorem dX5_turns_139 : decode cX5_turns 139 = .ok (.if_icmp .ne 27, 3) := by decide +kernel
theorem dX5_turns_142 : decode cX5_turns 142 = .ok (.ldc2_w 102, 3) := by decide +kernel
theorem dX5_turns_145 : decode cX5_turns 145 = .ok (.lload 6, 2) := by decide +kernel
theorem dX5_turns_147 : decode cX5_turns 147 = .ok (.lmul, 1) := by decide +kernel
theorem dX5_turns_148 : decode cX5_turns 148 = .ok (.ldc2_w 104, 3) := by decide +kernel
theorem dX5_turns_151 : decode cX5_turns 151 = .ok (.aload_n 0, 1) := by decide +kernel
theorem dX5_turns_152 : decode cX5_turns 152 = .ok (.getfield 32, 3) := by decide +kernel
theorem dX5_turns_155 : decode cX5_turns 155 = .ok (.iload 5, 2) := by decide +kernel
theorem dX5_turns_157 : decode cX5_turns 157 = .ok (.iload 8, 2) := by decide +kernel
theorem dX5_turns_159 : decode cX5_turns 159 = .ok (.iadd, 1) := by decide +kernel
theorem dX5_turns_160 : decode cX5_turns 160 = .ok (.laload, 1) := by decide +kernel
theorem dX5_turns_161 : decode cX5_turns 161 = .ok (.lmul, 1) := by decide +kernel
theorem dX5_turns_162 : decode cX5_turns 162 = .ok (.lsub, 1) := by decide +kernel
theorem dX5_turns_163 : decode cX5_turns 163 = .ok (.goto 20, 3) := by decide +kernel
theorem dX5_turns_166 : decode cX5_turns 166 = .ok (.lload 6, 2) := by decide +kernel
theorem dX5_turns_168 : decode cX5_turns 168 = .ok (.ldc2_w 102, 3) := by decide +kernel
theorem dX5_turns_171 : decode cX5_turns 171 = .ok (.aload_n 0, 1) := by decide +kernel
theorem dX5_turns_172 : decode cX5_turns 172 = .ok (.getfield 32, 3) := by decide +kernel
theorem dX5_turns_175 : decode cX5_turns 175 = .ok (.iload 5, 2) := by decide +kernel
theorem dX5_turns_177 : decode cX5_turns 177 = .ok (.iload 8, 2) := by decide +kernel
theorem dX5_turns_179 : decode cX5_turns 179 = .ok (.iadd, 1) := by decide +kernel
theorem dX5_turns_180 : decode cX5_turns 180 = .ok (.laload, 1) := by decide +kernel
theorem dX5_turns_181 : decode cX5_turns 181 = .ok (.lmul, 1) := by decide +kernel
theorem dX5_turns_182 : decode cX5_turns 182 = .ok (.lsub, 1) := by decide +kernel
theorem dX5_turns_183 : decode cX5_turns 183 = .ok (.lastore, 1) := by decide +kernel
theorem dX5_turns_184 : decode cX5_turns 184 = .ok (.iinc 8 1, 3) := by decide +kernel
theorem dX5_turns_187 : decode cX5_turns 187 = .ok (.goto (-65), 3) := by decide +kernel
theorem dX5_turns_190 : decode cX5_turns 190 = .ok (.iinc 4 1, 3) := by decide +kernel
theorem dX5_turns_193 : decode cX5_turns 193 = .ok (.goto (-176), 3) := by decide +kernel
theorem dX5_turns_196 : decode cX5_turns 196 = .ok (.return_, 1) := by decide +kernel
theorem dX5_signs_0 : decode cX5_signs 0 = .ok (.iconst 0, 1) := by decide +kernel
theorem dX5_signs_1 : decode cX5_signs 1 = .ok (.istore_n 2, 1) := by decide +kernel
theorem dX5_signs_2 : decode cX5_signs 2 = .ok (.iload_n 2, 1) := by decide +kernel
theorem dX5_signs_3 : decode cX5_signs 3 = .ok (.aload_n 0, 1) := by decide +kernel
theorem dX5_signs_4 : decode cX5_signs 4 = .ok (.getfield 7, 3) := by decide +kernel
theorem dX5_signs_7 : decode cX5_signs 7 = .ok (.aload_n 0, 1) := by decide +kernel
theorem dX5_signs_8 : decode cX5_signs 8 = .ok (.getfield 26, 3) := by decide +kernel
theorem dX5_signs_11 : decode cX5_signs 11 = .ok (.iload_n 1, 1) := by decide +kernel
theorem dX5_signs_12 : decode cX5_signs 12 = .ok (.iaload, 1) := by decide +kernel
theorem dX5_signs_13 : decode cX5_signs 13 = .ok (.iaload, 1) := by decide +kernel
theorem dX5_signs_14 : decode cX5_signs 14 = .ok (.if_icmp .ge 72, 3) := by decide +kernel
theorem dX5_signs_17 : decode cX5_signs 17 = .ok (.iconst 0, 1) := by decide +kernel
theorem dX5_signs_18 : decode cX5_signs 18 = .ok (.istore_n 3, 1) := by decide +kernel
theorem dX5_signs_19 : decode cX5_signs 19 = .ok (.iload_n 3, 1) := by decide +kernel
theorem dX5_signs_20 : decode cX5_signs 20 = .ok (.iconst 4, 1) := by decide +kernel
theorem dX5_signs_21 : decode cX5_signs 21 = .ok (.if_icmp .ge 59, 3) := by decide +kernel
theorem dX5_signs_24 : decode cX5_signs 24 = .ok (.aload_n 0, 1) := by decide +kernel
theorem dX5_signs_25 : decode cX5_signs 25 = .ok (.getfield 19, 3) := by decide +kernel
theorem dX5_signs_28 : decode cX5_signs 28 = .ok (.bipush 12, 2) := by decide +kernel
theorem dX5_signs_30 : decode cX5_signs 30 = .ok (.aload_n 0, 1) := by decide +kernel
theorem dX5_signs_31 : decode cX5_signs 31 = .ok (.getfield 26, 3) := by decide +kernel
theorem dX5_signs_34 : decode cX5_signs 34 = .ok (.iload_n 1, 1) := by decide +kernel
theorem dX5_signs_35 : decode cX5_signs 35 = .ok (.iaload, 1) := by decide +kernel
theorem dX5_signs_36 : decode cX5_signs 36 = .ok (.imul, 1) := by decide +kernel
theorem dX5_signs_37 : decode cX5_signs 37 = .ok (.iload_n 2, 1) := by decide +kernel
theorem dX5_signs_38 : decode cX5_signs 38 = .ok (.iadd, 1) := by decide +kernel
theorem dX5_signs_39 : decode cX5_signs 39 = .ok (.baload, 1) := by decide +kernel
theorem dX5_signs_40 : decode cX5_signs 40 = .ok (.ifCond .eq 34, 3) := by decide +kernel
theorem dX5_signs_43 : decode cX5_signs 43 = .ok (.aload_n 0, 1) := by decide +kernel
theorem dX5_signs_44 : decode cX5_signs 44 = .ok (.getfield 32, 3) := by decide +kernel
theorem dX5_signs_47 : decode cX5_signs 47 = .ok (.bipush 48, 2) := by decide +kernel
theorem dX5_signs_49 : decode cX5_signs 49 = .ok (.iload_n 1, 1) := by decide +kernel
theorem dX5_signs_50 : decode cX5_signs 50 = .ok (.imul, 1) := by decide +kernel
theorem dX5_signs_51 : decode cX5_signs 51 = .ok (.iconst 4, 1) := by decide +kernel
theorem dX5_signs_52 : decode cX5_signs 52 = .ok (.iload_n 2, 1) := by decide +kernel
theorem dX5_signs_53 : decode cX5_signs 53 = .ok (.imul, 1) := by decide +kernel
theorem dX5_signs_54 : decode cX5_signs 54 = .ok (.iadd, 1) := by decide +kernel
theorem dX5_signs_55 : decode cX5_signs 55 = .ok (.iload_n 3, 1) := by decide +kernel
theorem dX5_signs_56 : decode cX5_signs 56 = .ok (.iadd, 1) := by decide +kernel
theorem dX5_signs_57 : decode cX5_signs 57 = .ok (.aload_n 0, 1) := by decide +kernel
theorem dX5_signs_58 : decode cX5_signs 58 = .ok (.getfield 32, 3) := by decide +kernel
theorem dX5_signs_61 : decode cX5_signs 61 = .ok (.bipush 48, 2) := by decide +kernel
theorem dX5_signs_63 : decode cX5_signs 63 = .ok (.iload_n 1, 1) := by decide +kernel
theorem dX5_signs_64 : decode cX5_signs 64 = .ok (.imul, 1) := by decide +kernel
theorem dX5_signs_65 : decode cX5_signs 65 = .ok (.iconst 4, 1) := by decide +kernel
theorem dX5_signs_66 : decode cX5_signs 66 = .ok (.iload_n 2, 1) := by decide +kernel
theorem dX5_signs_67 : decode cX5_signs 67 = .ok (.imul, 1) := by decide +kernel
theorem dX5_signs_68 : decode cX5_signs 68 = .ok (.iadd, 1) := by decide +kernel
theorem dX5_signs_69 : decode cX5_signs 69 = .ok (.iload_n 3, 1) := by decide +kernel
theorem dX5_signs_70 : decode cX5_signs 70 = .ok (.iadd, 1) := by decide +kernel
theorem dX5_signs_71 : decode cX5_signs 71 = .ok (.laload, 1) := by decide +kernel
theorem dX5_signs_72 : decode cX5_signs 72 = .ok (.lneg, 1) := by decide +kernel
theorem dX5_signs_73 : decode cX5_signs 73 = .ok (.lastore, 1) := by decide +kernel
theorem dX5_signs_74 : decode cX5_signs 74 = .ok (.iinc 3 1, 3) := by decide +kernel
theorem dX5_signs_77 : decode cX5_signs 77 = .ok (.goto (-58), 3) := by decide +kernel
theorem dX5_signs_80 : decode cX5_signs 80 = .ok (.iinc 2 1, 3) := by decide +kernel
theorem dX5_signs_83 : decode cX5_signs 83 = .ok (.goto (-81), 3) := by decide +kernel
theorem dX5_signs_86 : decode cX5_signs 86 = .ok (.return_, 1) := by decide +kernel
theorem dX5_goes_0 : decode cX5_goes 0 = .ok (.iconst 0, 1) := by decide +kernel
theorem dX5_goes_1 : decode cX5_goes 1 = .ok (.istore_n 2, 1) := by decide +kernel
theorem dX5_goes_2 : decode cX5_goes 2 = .ok (.iload_n 2, 1) := by decide +kernel
theorem dX5_goes_3 : decode cX5_goes 3 = .ok (.bipush 48, 2) := by decide +kernel
theorem dX5_goes_5 : decode cX5_goes 5 = .ok (.if_icmp .ge 41, 3) := by decide +kernel
theorem dX5_goes_8 : decode cX5_goes 8 = .ok (.aload_n 0, 1) := by decide +kernel
theorem dX5_goes_9 : decode cX5_goes 9 = .ok (.getfield 36, 3) := by decide +kernel
theorem dX5_goes_12 : decode cX5_goes 12 = .ok (.iload_n 2, 1) := by decide +kernel
theorem dX5_goes_13 : decode cX5_goes 13 = .ok (.aload_n 0, 1) := by decide +kernel
theorem dX5_goes_14 : decode cX5_goes 14 = .ok (.getfield 32, 3) := by decide +kernel
theorem dX5_goes_17 : decode cX5_goes 17 = .ok (.bipush 48, 2) := by decide +kernel
theorem dX5_goes_19 : decode cX5_goes 19 = .ok (.iload_n 1, 1) := by decide +kernel
theorem dX5_goes_20 : decode cX5_goes 20 = .ok (.imul, 1) := by decide +kernel
theorem dX5_goes_21 : decode cX5_goes 21 = .ok (.aload_n 0, 1) := by decide +kernel
theorem dX5_goes_22 : decode cX5_goes 22 = .ok (.getfield 16, 3) := by decide +kernel
theorem dX5_goes_25 : decode cX5_goes 25 = .ok (.bipush 48, 2) := by decide +kernel
theorem dX5_goes_27 : decode cX5_goes 27 = .ok (.aload_n 0, 1) := by decide +kernel
theorem dX5_goes_28 : decode cX5_goes 28 = .ok (.getfield 26, 3) := by decide +kernel
theorem dX5_goes_31 : decode cX5_goes 31 = .ok (.iload_n 1, 1) := by decide +kernel
theorem dX5_goes_32 : decode cX5_goes 32 = .ok (.iaload, 1) := by decide +kernel
theorem dX5_goes_33 : decode cX5_goes 33 = .ok (.imul, 1) := by decide +kernel
theorem dX5_goes_34 : decode cX5_goes 34 = .ok (.iload_n 2, 1) := by decide +kernel
theorem dX5_goes_35 : decode cX5_goes 35 = .ok (.iadd, 1) := by decide +kernel
theorem dX5_goes_36 : decode cX5_goes 36 = .ok (.iaload, 1) := by decide +kernel
theorem dX5_goes_37 : decode cX5_goes 37 = .ok (.iadd, 1) := by decide +kernel
theorem dX5_goes_38 : decode cX5_goes 38 = .ok (.laload, 1) := by decide +kernel
theorem dX5_goes_39 : decode cX5_goes 39 = .ok (.lastore, 1) := by decide +kernel
theorem dX5_goes_40 : decode cX5_goes 40 = .ok (.iinc 2 1, 3) := by decide +kernel
theorem dX5_goes_43 : decode cX5_goes 43 = .ok (.goto (-41), 3) := by decide +kernel
theorem dX5_goes_46 : decode cX5_goes 46 = .ok (.iconst 0, 1) := by decide +kernel
theorem dX5_goes_47 : decode cX5_goes 47 = .ok (.istore_n 2, 1) := by decide +kernel
theorem dX5_goes_48 : decode cX5_goes 48 = .ok (.iload_n 2, 1) := by decide +kernel
theorem dX5_goes_49 : decode cX5_goes 49 = .ok (.bipush 48, 2) := by decide +kernel
theorem dX5_goes_51 : decode cX5_goes 51 = .ok (.if_icmp .ge 26, 3) := by decide +kernel
theorem dX5_goes_54 : decode cX5_goes 54 = .ok (.aload_n 0, 1) := by decide +kernel
theorem dX5_goes_55 : decode cX5_goes 55 = .ok (.getfield 32, 3) := by decide +kernel
theorem dX5_goes_58 : decode cX5_goes 58 = .ok (.bipush 48, 2) := by decide +kernel
theorem dX5_goes_60 : decode cX5_goes 60 = .ok (.iload_n 1, 1) := by decide +kernel
theorem dX5_goes_61 : decode cX5_goes 61 = .ok (.imul, 1) := by decide +kernel
theorem dX5_goes_62 : decode cX5_goes 62 = .ok (.iload_n 2, 1) := by decide +kernel
theorem dX5_goes_63 : decode cX5_goes 63 = .ok (.iadd, 1) := by decide +kernel
theorem dX5_goes_64 : decode cX5_goes 64 = .ok (.aload_n 0, 1) := by decide +kernel
theorem dX5_goes_65 : decode cX5_goes 65 = .ok (.getfield 36, 3) := by decide +kernel
theorem dX5_goes_68 : decode cX5_goes 68 = .ok (.iload_n 2, 1) := by decide +kernel
theorem dX5_goes_69 : decode cX5_goes 69 = .ok (.laload, 1) := by decide +kernel
theorem dX5_goes_70 : decode cX5_goes 70 = .ok (.lastore, 1) := by decide +kernel
theorem dX5_goes_71 : decode cX5_goes 71 = .ok (.iinc 2 1, 3) := by decide +kernel
theorem dX5_goes_74 : decode cX5_goes 74 = .ok (.goto (-26), 3) := by decide +kernel
theorem dX5_goes_77 : decode cX5_goes 77 = .ok (.return_, 1) := by decide +kernel
set_option maxRecDepth 20000 in
theorem ggX5_steps_X5_signs : GoodIn wsX5_steps wsX5_signs := goodIn_r _ [6, 7, 8, 9, 10, 24, 25, 26, 27, 28, 29, 30, 31, 32, 33, 34, 35, 36, 37] (by decide +kernel) (by decide +kernel)
set_option maxRecDepth 20000 in
theorem gX5_steps_X5_signs : GoodIn wsX5_steps (wsV RX5 106 RX5 yX5_signs wsX5_signs) := goodIn_app (goodIn_of _ (by decide +kernel)) ggX5_steps_X5_signs
set_option maxRecDepth 20000 in
theorem ggX5_steps_X5_turns : GoodIn wsX5_steps wsX5_turns := goodIn_r _ [14, 8, 15, 7, 10, 16, 17, 24, 25, 26, 27, 28, 29, 30, 31, 32, 33, 34, 35, 36, 37] (by decide +kernel) (by decide +kernel)
set_option maxRecDepth 20000 in
theorem gX5_steps_X5_turns : GoodIn wsX5_steps (wsV RX5 110 RX5 yX5_turns wsX5_turns) := goodIn_app (goodIn_of _ (by decide +kernel)) ggX5_steps_X5_turns
set_option maxRecDepth 20000 in
theorem ggX5_steps_X5_goes : GoodIn wsX5_steps wsX5_goes := goodIn_r _ [21, 22, 10, 23, 8, 24, 25, 26, 27, 28, 29, 30, 31, 32, 33, 34, 35, 36, 37] (by decide +kernel) (by decide +kernel)
set_option maxRecDepth 20000 in
theorem gX5_steps_X5_goes : GoodIn wsX5_steps (wsV RX5 113 RX5 yX5_goes wsX5_goes) := goodIn_app (goodIn_of _ (by decide +kernel)) ggX5_steps_X5_goes
theorem dX5_steps_0 : decode cX5_steps 0 = .ok (.aload_n 0, 1) := by decide +kernel
theorem dX5_steps_1 : decode cX5_steps 1 = .ok (.iload_n 1, 1) := by decide +kernel
theorem dX5_steps_2 : decode cX5_steps 2 = .ok (.invokevirtual 106, 3) := by decide +kernel
theorem dX5_steps_5 : decode cX5_steps 5 = .ok (.aload_n 0, 1) := by decide +kernel
theorem dX5_steps_6 : decode cX5_steps 6 = .ok (.iload_n 1, 1) := by decide +kernel
theorem dX5_steps_7 : decode cX5_steps 7 = .ok (.invokevirtual 110, 3) := by decide +kernel
theorem dX5_steps_10 : decode cX5_steps 10 = .ok (.aload_n 0, 1) := by decide +kernel
theorem dX5_steps_11 : decode cX5_steps 11 = .ok (.iload_n 1, 1) := by decide +kernel
theorem dX5_steps_12 : decode cX5_steps 12 = .ok (.invokevirtual 113, 3) := by decide +kernel
theorem dX5_steps_15 : decode cX5_steps 15 = .ok (.aload_n 0, 1) := by decide +kernel
theorem dX5_steps_16 : decode cX5_steps 16 = .ok (.getfield 29, 3) := by decide +kernel
theorem dX5_steps_19 : decode cX5_steps 19 = .ok (.iload_n 1, 1) := by decide +kernel
theorem dX5_steps_20 : decode cX5_steps 20 = .ok (.dup2, 1) := by decide +kernel
theorem dX5_steps_21 : decode cX5_steps 21 = .ok (.iaload, 1) := by decide +kernel
theorem dX5_steps_22 : decode cX5_steps 22 = .ok (.iconst 1, 1) := by decide +kernel
theorem dX5_steps_23 : decode cX5_steps 23 = .ok (.iadd, 1) := by decide +kernel
theorem dX5_steps_24 : decode cX5_steps 24 = .ok (.iastore, 1) := by decide +kernel
theorem dX5_steps_25 : decode cX5_steps 25 = .ok (.return_, 1) := by decide +kernel
theorem dX5_copies_0 : decode cX5_copies 0 = .ok (.aload_n 0, 1) := by decide +kernel
theorem dX5_copies_1 : decode cX5_copies 1 = .ok (.getfield 26, 3) := by decide +kernel
theorem dX5_copies_4 : decode cX5_copies 4 = .ok (.iload_n 2, 1) := by decide +kernel
theorem dX5_copies_5 : decode cX5_copies 5 = .ok (.aload_n 0, 1) := by decide +kernel
theorem dX5_copies_6 : decode cX5_copies 6 = .ok (.getfield 26, 3) := by decide +kernel
theorem dX5_copies_9 : decode cX5_copies 9 = .ok (.iload_n 1, 1) := by decide +kernel
theorem dX5_copies_10 : decode cX5_copies 10 = .ok (.iaload, 1) := by decide +kernel
theorem dX5_copies_11 : decode cX5_copies 11 = .ok (.iastore, 1) := by decide +kernel
theorem dX5_copies_12 : decode cX5_copies 12 = .ok (.aload_n 0, 1) := by decide +kernel
theorem dX5_copies_13 : decode cX5_copies 13 = .ok (.getfield 29, 3) := by decide +kernel
theorem dX5_copies_16 : decode cX5_copies 16 = .ok (.iload_n 2, 1) := by decide +kernel
theorem dX5_copies_17 : decode cX5_copies 17 = .ok (.aload_n 0, 1) := by decide +kernel
theorem dX5_copies_18 : decode cX5_copies 18 = .ok (.getfield 29, 3) := by decide +kernel
theorem dX5_copies_21 : decode cX5_copies 21 = .ok (.iload_n 1, 1) := by decide +kernel
theorem dX5_copies_22 : decode cX5_copies 22 = .ok (.iaload, 1) := by decide +kernel
theorem dX5_copies_23 : decode cX5_copies 23 = .ok (.iastore, 1) := by decide +kernel
theorem dX5_copies_24 : decode cX5_copies 24 = .ok (.iconst 0, 1) := by decide +kernel
theorem dX5_copies_25 : decode cX5_copies 25 = .ok (.istore_n 3, 1) := by decide +kernel
theorem dX5_copies_26 : decode cX5_copies 26 = .ok (.iload_n 3, 1) := by decide +kernel
theorem dX5_copies_27 : decode cX5_copies 27 = .ok (.bipush 48, 2) := by decide +kernel
theorem dX5_copies_29 : decode cX5_copies 29 = .ok (.if_icmp .ge 31, 3) := by decide +kernel
theorem dX5_copies_32 : decode cX5_copies 32 = .ok (.aload_n 0, 1) := by decide +kernel
theorem dX5_copies_33 : decode cX5_copies 33 = .ok (.getfield 32, 3) := by decide +kernel
theorem dX5_copies_36 : decode cX5_copies 36 = .ok (.bipush 48, 2) := by decide +kernel
theorem dX5_copies_38 : decode cX5_copies 38 = .ok (.iload_n 2, 1) := by decide +kernel
theorem dX5_copies_39 : decode cX5_copies 39 = .ok (.imul, 1) := by decide +kernel
theorem dX5_copies_40 : decode cX5_copies 40 = .ok (.iload_n 3, 1) := by decide +kernel
theorem dX5_copies_41 : decode cX5_copies 41 = .ok (.iadd, 1) := by decide +kernel
theorem dX5_copies_42 : decode cX5_copies 42 = .ok (.aload_n 0, 1) := by decide +kernel
theorem dX5_copies_43 : decode cX5_copies 43 = .ok (.getfield 32, 3) := by decide +kernel
theorem dX5_copies_46 : decode cX5_copies 46 = .ok (.bipush 48, 2) := by decide +kernel
theorem dX5_copies_48 : decode cX5_copies 48 = .ok (.iload_n 1, 1) := by decide +kernel
theorem dX5_copies_49 : decode cX5_copies 49 = .ok (.imul, 1) := by decide +kernel
theorem dX5_copies_50 : decode cX5_copies 50 = .ok (.iload_n 3, 1) := by decide +kernel
theorem dX5_copies_51 : decode cX5_copies 51 = .ok (.iadd, 1) := by decide +kernel
theorem dX5_copies_52 : decode cX5_copies 52 = .ok (.laload, 1) := by decide +kernel
theorem dX5_copies_53 : decode cX5_copies 53 = .ok (.lastore, 1) := by decide +kernel
theorem dX5_copies_54 : decode cX5_copies 54 = .ok (.iinc 3 1, 3) := by decide +kernel
theorem dX5_copies_57 : decode cX5_copies 57 = .ok (.goto (-31), 3) := by decide +kernel
theorem dX5_copies_60 : decode cX5_copies 60 = .ok (.return_, 1) := by decide +kernel
theorem dX5_isMany_0 : decode cX5_isMany 0 = .ok (.iload_n 0, 1) := by decide +kernel
theorem dX5_isMany_1 : decode cX5_isMany 1 = .ok (.ifCond .lt 13, 3) := by decide +kernel
theorem dX5_isMany_4 : decode cX5_isMany 4 = .ok (.iload_n 0, 1) := by decide +kernel
theorem dX5_isMany_5 : decode cX5_isMany 5 = .ok (.bipush 60, 2) := by decide +kernel
theorem dX5_isMany_7 : decode cX5_isMany 7 = .ok (.if_icmp .gt 7, 3) := by decide +kernel
theorem dX5_isMany_10 : decode cX5_isMany 10 = .ok (.iconst 1, 1) := by decide +kernel
theorem dX5_isMany_11 : decode cX5_isMany 11 = .ok (.goto 4, 3) := by decide +kernel
theorem dX5_isMany_14 : decode cX5_isMany 14 = .ok (.iconst 0, 1) := by decide +kernel
theorem dX5_isMany_15 : decode cX5_isMany 15 = .ok (.ireturn, 1) := by decide +kernel
set_option maxRecDepth 20000 in
theorem ggX5_step_X5_isWalk : GoodIn wsX5_step wsX5_isWalk := goodIn_r _ [6, 7, 8, 9, 10, 11, 5, 12, 62, 63, 64, 65, 66, 67, 68, 69, 70, 71, 72, 73, 74, 75] (by decide +kernel) (by decide +kernel)
set_option maxRecDepth 20000 in
theorem gX5_step_X5_isWalk : GoodIn wsX5_step (wsV RX5 82 RX5 yX5_isWalk wsX5_isWalk) := goodIn_app (goodIn_of _ (by decide +kernel)) ggX5_step_X5_isWalk
set_option maxRecDepth 20000 in
theorem ggX5_step_X5_isMany : GoodIn wsX5_step wsX5_isMany := goodIn_r _ [15] (by decide +kernel) (by decide +kernel)
set_option maxRecDepth 20000 in
theorem gX5_step_X5_isMany : GoodIn wsX5_step (va_wsS RX5 116 yX5_isMany wsX5_isMany) := goodIn_app (goodIn_of _ (by decide +kernel)) ggX5_step_X5_isMany
set_option maxRecDepth 20000 in
theorem ggX5_step_X5_right : GoodIn wsX5_step wsX5_right := goodIn_r _ [12, 7, 62, 63, 64, 65, 66, 67, 68, 69, 70, 71, 72, 73, 74, 75] (by decide +kernel) (by decide +kernel)
set_option maxRecDepth 20000 in
theorem gX5_step_X5_right : GoodIn wsX5_step (wsV RX5 52 RX5 yX5_right wsX5_right) := goodIn_app (goodIn_of _ (by decide +kernel)) ggX5_step_X5_right
set_option maxRecDepth 20000 in
theorem ggX5_step_X5_weight : GoodIn wsX5_step wsX5_weight := goodIn_r _ [19, 20, 21, 22, 5, 23, 24, 62, 63, 64, 65, 66, 67, 68, 69, 70, 71, 72, 73, 74, 75] (by decide +kernel) (by decide +kernel)
set_option maxRecDepth 20000 in
theorem gX5_step_X5_weight : GoodIn wsX5_step (wsV RX5 93 RX5 yX5_weight wsX5_weight) := goodIn_app (goodIn_of _ (by decide +kernel)) ggX5_step_X5_weight
set_option maxRecDepth 20000 in
theorem ggX5_step_X5_copies : GoodIn wsX5_step wsX5_copies := goodIn_r _ [28, 29, 1, 24, 62, 63, 64, 65, 66, 67, 68, 69, 70, 71, 72, 73, 74, 75] (by decide +kernel) (by decide +kernel)
set_option maxRecDepth 20000 in
theorem gX5_step_X5_copies : GoodIn wsX5_step (wsV RX5 119 RX5 yX5_copies wsX5_copies) := goodIn_app (goodIn_of _ (by decide +kernel)) ggX5_step_X5_copies
set_option maxRecDepth 20000 in
theorem ggX5_step_X5_goesOn : GoodIn wsX5_step wsX5_goesOn := goodIn_r _ [33, 1, 34, 16, 17, 18, 5, 19, 20, 21, 22, 23, 24, 35, 36, 37, 38, 39, 29, 62, 63, 64, 65, 66, 67, 68, 69, 70, 71, 72, 73, 74, 75] (by decide +kernel) (by decide +kernel)
set_option maxRecDepth 20000 in
theorem gX5_step_X5_goesOn : GoodIn wsX5_step (wsV RX5 123 RX5 yX5_goesOn wsX5_goesOn) := goodIn_app (goodIn_of _ (by decide +kernel)) ggX5_step_X5_goesOn
set_option maxRecDepth 20000 in
theorem ggX5_step_X5_steps : GoodIn wsX5_step wsX5_steps := goodIn_r _ [43, 1, 44, 45, 46, 5, 47, 48, 29, 49, 24, 50, 51, 52, 53, 39, 54, 55, 56, 57, 58, 59, 60, 61, 62, 63, 64, 65, 66, 67, 68, 69, 70, 71, 72, 73, 74, 75] (by decide +kernel) (by decide +kernel)
set_option maxRecDepth 20000 in
theorem gX5_step_X5_steps : GoodIn wsX5_step (wsV RX5 126 RX5 yX5_steps wsX5_steps) := goodIn_app (goodIn_of _ (by decide +kernel)) ggX5_step_X5_steps
theorem dX5_step_0 : decode cX5_step 0 = .ok (.aload_n 0, 1) := by decide +kernel
theorem dX5_step_1 : decode cX5_step 1 = .ok (.iload_n 1, 1) := by decide +kernel
theorem dX5_step_2 : decode cX5_step 2 = .ok (.invokevirtual 82, 3) := by decide +kernel
theorem dX5_step_5 : decode cX5_step 5 = .ok (.ifCond .eq 15, 3) := by decide +kernel
theorem dX5_step_8 : decode cX5_step 8 = .ok (.aload_n 0, 1) := by decide +kernel
theorem dX5_step_9 : decode cX5_step 9 = .ok (.iload_n 2, 1) := by decide +kernel
theorem dX5_step_10 : decode cX5_step 10 = .ok (.invokestatic 116, 3) := by decide +kernel
theorem dX5_step_13 : decode cX5_step 13 = .ok (.iconst 2, 1) := by decide +kernel
theorem dX5_step_14 : decode cX5_step 14 = .ok (.invokevirtual 52, 3) := by decide +kernel
theorem dX5_step_17 : decode cX5_step 17 = .ok (.ifCond .ne 5, 3) := by decide +kernel
theorem dX5_step_20 : decode cX5_step 20 = .ok (.iconst 0, 1) := by decide +kernel
theorem dX5_step_21 : decode cX5_step 21 = .ok (.ireturn, 1) := by decide +kernel
theorem dX5_step_22 : decode cX5_step 22 = .ok (.aload_n 0, 1) := by decide +kernel
theorem dX5_step_23 : decode cX5_step 23 = .ok (.iload_n 1, 1) := by decide +kernel
theorem dX5_step_24 : decode cX5_step 24 = .ok (.invokevirtual 93, 3) := by decide +kernel
theorem dX5_step_27 : decode cX5_step 27 = .ok (.lconst 0, 1) := by decide +kernel
theorem dX5_step_28 : decode cX5_step 28 = .ok (.lcmp, 1) := by decide +kernel
theorem dX5_step_29 : decode cX5_step 29 = .ok (.ifCond .ne 5, 3) := by decide +kernel
theorem dX5_step_32 : decode cX5_step 32 = .ok (.iconst (-1), 1) := by decide +kernel
theorem dX5_step_33 : decode cX5_step 33 = .ok (.ireturn, 1) := by decide +kernel
theorem dX5_step_34 : decode cX5_step 34 = .ok (.aload_n 0, 1) := by decide +kernel
theorem dX5_step_35 : decode cX5_step 35 = .ok (.iload_n 1, 1) := by decide +kernel
theorem dX5_step_36 : decode cX5_step 36 = .ok (.bipush 12, 2) := by decide +kernel
theorem dX5_step_38 : decode cX5_step 38 = .ok (.invokevirtual 119, 3) := by decide +kernel
theorem dX5_step_41 : decode cX5_step 41 = .ok (.iconst 0, 1) := by decide +kernel
theorem dX5_step_42 : decode cX5_step 42 = .ok (.istore_n 3, 1) := by decide +kernel
theorem dX5_step_43 : decode cX5_step 43 = .ok (.iload_n 3, 1) := by decide +kernel
theorem dX5_step_44 : decode cX5_step 44 = .ok (.iload_n 2, 1) := by decide +kernel
theorem dX5_step_45 : decode cX5_step 45 = .ok (.if_icmp .ge 26, 3) := by decide +kernel
theorem dX5_step_48 : decode cX5_step 48 = .ok (.aload_n 0, 1) := by decide +kernel
theorem dX5_step_49 : decode cX5_step 49 = .ok (.bipush 12, 2) := by decide +kernel
theorem dX5_step_51 : decode cX5_step 51 = .ok (.invokevirtual 123, 3) := by decide +kernel
theorem dX5_step_54 : decode cX5_step 54 = .ok (.ifCond .ne 5, 3) := by decide +kernel
theorem dX5_step_57 : decode cX5_step 57 = .ok (.iconst (-1), 1) := by decide +kernel
theorem dX5_step_58 : decode cX5_step 58 = .ok (.ireturn, 1) := by decide +kernel
theorem dX5_step_59 : decode cX5_step 59 = .ok (.aload_n 0, 1) := by decide +kernel
theorem dX5_step_60 : decode cX5_step 60 = .ok (.bipush 12, 2) := by decide +kernel
theorem dX5_step_62 : decode cX5_step 62 = .ok (.invokevirtual 126, 3) := by decide +kernel
theorem dX5_step_65 : decode cX5_step 65 = .ok (.iinc 3 1, 3) := by decide +kernel
theorem dX5_step_68 : decode cX5_step 68 = .ok (.goto (-25), 3) := by decide +kernel
theorem dX5_step_71 : decode cX5_step 71 = .ok (.aload_n 0, 1) := by decide +kernel
theorem dX5_step_72 : decode cX5_step 72 = .ok (.bipush 12, 2) := by decide +kernel
theorem dX5_step_74 : decode cX5_step 74 = .ok (.iload_n 1, 1) := by decide +kernel
theorem dX5_step_75 : decode cX5_step 75 = .ok (.invokevirtual 119, 3) := by decide +kernel
theorem dX5_step_78 : decode cX5_step 78 = .ok (.aload_n 0, 1) := by decide +kernel
theorem dX5_step_79 : decode cX5_step 79 = .ok (.getfield 29, 3) := by decide +kernel
theorem dX5_step_82 : decode cX5_step 82 = .ok (.iload_n 1, 1) := by decide +kernel
theorem dX5_step_83 : decode cX5_step 83 = .ok (.iaload, 1) := by decide +kernel
theorem dX5_step_84 : decode cX5_step 84 = .ok (.ireturn, 1) := by decide +kernel
set_option maxRecDepth 20000 in
theorem ggX5_back_X5_isWalk : GoodIn wsX5_back wsX5_isWalk := goodIn_r _ [7, 8, 9, 10, 11, 12, 6, 13, 41, 42, 43, 44, 45, 46, 47, 48, 49, 50, 51, 52, 53, 54] (by decide +kernel) (by decide +kernel)
set_option maxRecDepth 20000 in
theorem gX5_back_X5_isWalk : GoodIn wsX5_back (wsV RX5 82 RX5 yX5_isWalk wsX5_isWalk) := goodIn_app (goodIn_of _ (by decide +kernel)) ggX5_back_X5_isWalk
set_option maxRecDepth 20000 in
theorem ggX5_back_X5_isMany : GoodIn wsX5_back wsX5_isMany := goodIn_r _ [16] (by decide +kernel) (by decide +kernel)
set_option maxRecDepth 20000 in
theorem gX5_back_X5_isMany : GoodIn wsX5_back (va_wsS RX5 116 yX5_isMany wsX5_isMany) := goodIn_app (goodIn_of _ (by decide +kernel)) ggX5_back_X5_isMany
set_option maxRecDepth 20000 in
theorem ggX5_back_X5_right : GoodIn wsX5_back wsX5_right := goodIn_r _ [13, 8, 41, 42, 43, 44, 45, 46, 47, 48, 49, 50, 51, 52, 53, 54] (by decide +kernel) (by decide +kernel)
set_option maxRecDepth 20000 in
theorem gX5_back_X5_right : GoodIn wsX5_back (wsV RX5 52 RX5 yX5_right wsX5_right) := goodIn_app (goodIn_of _ (by decide +kernel)) ggX5_back_X5_right
set_option maxRecDepth 20000 in
theorem ggX5_back_X5_goes : GoodIn wsX5_back wsX5_goes := goodIn_r _ [20, 21, 2, 22, 23, 41, 42, 43, 44, 45, 46, 47, 48, 49, 50, 51, 52, 53, 54] (by decide +kernel) (by decide +kernel)
set_option maxRecDepth 20000 in
theorem gX5_back_X5_goes : GoodIn wsX5_back (wsV RX5 113 RX5 yX5_goes wsX5_goes) := goodIn_app (goodIn_of _ (by decide +kernel)) ggX5_back_X5_goes
set_option maxRecDepth 20000 in
theorem ggX5_back_X5_turns : GoodIn wsX5_back wsX5_turns := goodIn_r _ [27, 23, 28, 29, 2, 30, 31, 41, 42, 43, 44, 45, 46, 47, 48, 49, 50, 51, 52, 53, 54] (by decide +kernel) (by decide +kernel)
set_option maxRecDepth 20000 in
theorem gX5_back_X5_turns : GoodIn wsX5_back (wsV RX5 110 RX5 yX5_turns wsX5_turns) := goodIn_app (goodIn_of _ (by decide +kernel)) ggX5_back_X5_turns
set_option maxRecDepth 20000 in
theorem ggX5_back_X5_scale : GoodIn wsX5_back wsX5_scale := goodIn_r _ [35, 28, 23, 41, 42, 43, 44, 45, 46, 47, 48, 49, 50, 51, 52, 53, 54] (by decide +kernel) (by decide +kernel)
set_option maxRecDepth 20000 in
theorem gX5_back_X5_scale : GoodIn wsX5_back (wsV RX5 99 RX5 yX5_scale wsX5_scale) := goodIn_app (goodIn_of _ (by decide +kernel)) ggX5_back_X5_scale
set_option maxRecDepth 20000 in
theorem ggX5_back_X5_signs : GoodIn wsX5_back wsX5_signs := goodIn_r _ [39, 29, 23, 40, 2, 41, 42, 43, 44, 45, 46, 47, 48, 49, 50, 51, 52, 53, 54] (by decide +kernel) (by decide +kernel)
set_option maxRecDepth 20000 in
theorem gX5_back_X5_signs : GoodIn wsX5_back (wsV RX5 106 RX5 yX5_signs wsX5_signs) := goodIn_app (goodIn_of _ (by decide +kernel)) ggX5_back_X5_signs
theorem dX5_back_0 : decode cX5_back 0 = .ok (.aload_n 0, 1) := by decide +kernel
theorem dX5_back_1 : decode cX5_back 1 = .ok (.iload_n 1, 1) := by decide +kernel
theorem dX5_back_2 : decode cX5_back 2 = .ok (.invokevirtual 82, 3) := by decide +kernel
theorem dX5_back_5 : decode cX5_back 5 = .ok (.ifCond .eq 15, 3) := by decide +kernel
theorem dX5_back_8 : decode cX5_back 8 = .ok (.aload_n 0, 1) := by decide +kernel
theorem dX5_back_9 : decode cX5_back 9 = .ok (.iload_n 2, 1) := by decide +kernel
theorem dX5_back_10 : decode cX5_back 10 = .ok (.invokestatic 116, 3) := by decide +kernel
theorem dX5_back_13 : decode cX5_back 13 = .ok (.iconst 2, 1) := by decide +kernel
theorem dX5_back_14 : decode cX5_back 14 = .ok (.invokevirtual 52, 3) := by decide +kernel
theorem dX5_back_17 : decode cX5_back 17 = .ok (.ifCond .ne 5, 3) := by decide +kernel
theorem dX5_back_20 : decode cX5_back 20 = .ok (.iconst 0, 1) := by decide +kernel
theorem dX5_back_21 : decode cX5_back 21 = .ok (.ireturn, 1) := by decide +kernel
theorem dX5_back_22 : decode cX5_back 22 = .ok (.aload_n 0, 1) := by decide +kernel
theorem dX5_back_23 : decode cX5_back 23 = .ok (.getfield 29, 3) := by decide +kernel
theorem dX5_back_26 : decode cX5_back 26 = .ok (.iload_n 1, 1) := by decide +kernel
theorem dX5_back_27 : decode cX5_back 27 = .ok (.iaload, 1) := by decide +kernel
theorem dX5_back_28 : decode cX5_back 28 = .ok (.iload_n 2, 1) := by decide +kernel
theorem dX5_back_29 : decode cX5_back 29 = .ok (.if_icmp .ge 5, 3) := by decide +kernel
theorem dX5_back_32 : decode cX5_back 32 = .ok (.iconst (-1), 1) := by decide +kernel
theorem dX5_back_33 : decode cX5_back 33 = .ok (.ireturn, 1) := by decide +kernel
theorem dX5_back_34 : decode cX5_back 34 = .ok (.iconst 0, 1) := by decide +kernel
theorem dX5_back_35 : decode cX5_back 35 = .ok (.istore_n 3, 1) := by decide +kernel
theorem dX5_back_36 : decode cX5_back 36 = .ok (.iload_n 3, 1) := by decide +kernel
theorem dX5_back_37 : decode cX5_back 37 = .ok (.iload_n 2, 1) := by decide +kernel
theorem dX5_back_38 : decode cX5_back 38 = .ok (.if_icmp .ge 71, 3) := by decide +kernel
theorem dX5_back_41 : decode cX5_back 41 = .ok (.aload_n 0, 1) := by decide +kernel
theorem dX5_back_42 : decode cX5_back 42 = .ok (.iload_n 1, 1) := by decide +kernel
theorem dX5_back_43 : decode cX5_back 43 = .ok (.invokevirtual 113, 3) := by decide +kernel
theorem dX5_back_46 : decode cX5_back 46 = .ok (.aload_n 0, 1) := by decide +kernel
theorem dX5_back_47 : decode cX5_back 47 = .ok (.iload_n 1, 1) := by decide +kernel
theorem dX5_back_48 : decode cX5_back 48 = .ok (.invokevirtual 110, 3) := by decide +kernel
theorem dX5_back_51 : decode cX5_back 51 = .ok (.iconst 0, 1) := by decide +kernel
theorem dX5_back_52 : decode cX5_back 52 = .ok (.istore 4, 2) := by decide +kernel
theorem dX5_back_54 : decode cX5_back 54 = .ok (.iload 4, 2) := by decide +kernel
theorem dX5_back_56 : decode cX5_back 56 = .ok (.bipush 48, 2) := by decide +kernel
theorem dX5_back_58 : decode cX5_back 58 = .ok (.if_icmp .ge 30, 3) := by decide +kernel
theorem dX5_back_61 : decode cX5_back 61 = .ok (.aload_n 0, 1) := by decide +kernel
theorem dX5_back_62 : decode cX5_back 62 = .ok (.getfield 32, 3) := by decide +kernel
theorem dX5_back_65 : decode cX5_back 65 = .ok (.bipush 48, 2) := by decide +kernel
theorem dX5_back_67 : decode cX5_back 67 = .ok (.iload_n 1, 1) := by decide +kernel
theorem dX5_back_68 : decode cX5_back 68 = .ok (.imul, 1) := by decide +kernel
theorem dX5_back_69 : decode cX5_back 69 = .ok (.iload 4, 2) := by decide +kernel
theorem dX5_back_71 : decode cX5_back 71 = .ok (.iadd, 1) := by decide +kernel
theorem dX5_back_72 : decode cX5_back 72 = .ok (.dup2, 1) := by decide +kernel
theorem dX5_back_73 : decode cX5_back 73 = .ok (.laload, 1) := by decide +kernel
theorem dX5_back_74 : decode cX5_back 74 = .ok (.aload_n 0, 1) := by decide +kernel
theorem dX5_back_75 : decode cX5_back 75 = .ok (.iload_n 1, 1) := by decide +kernel
theorem dX5_back_76 : decode cX5_back 76 = .ok (.invokevirtual 99, 3) := by decide +kernel
theorem dX5_back_79 : decode cX5_back 79 = .ok (.i2l, 1) := by decide +kernel
theorem dX5_back_80 : decode cX5_back 80 = .ok (.ldiv, 1) := by decide +kernel
theorem dX5_back_81 : decode cX5_back 81 = .ok (.lastore, 1) := by decide +kernel
theorem dX5_back_82 : decode cX5_back 82 = .ok (.iinc 4 1, 3) := by decide +kernel
theorem dX5_back_85 : decode cX5_back 85 = .ok (.goto (-31), 3) := by decide +kernel
theorem dX5_back_88 : decode cX5_back 88 = .ok (.aload_n 0, 1) := by decide +kernel
theorem dX5_back_89 : decode cX5_back 89 = .ok (.iload_n 1, 1) := by decide +kernel
theorem dX5_back_90 : decode cX5_back 90 = .ok (.invokevirtual 106, 3) := by decide +kernel
theorem dX5_back_93 : decode cX5_back 93 = .ok (.aload_n 0, 1) := by decide +kernel
theorem dX5_back_94 : decode cX5_back 94 = .ok (.getfield 29, 3) := by decide +kernel
theorem dX5_back_97 : decode cX5_back 97 = .ok (.iload_n 1, 1) := by decide +kernel
theorem dX5_back_98 : decode cX5_back 98 = .ok (.dup2, 1) := by decide +kernel
theorem dX5_back_99 : decode cX5_back 99 = .ok (.iaload, 1) := by decide +kernel
theorem dX5_back_100 : decode cX5_back 100 = .ok (.iconst 1, 1) := by decide +kernel
theorem dX5_back_101 : decode cX5_back 101 = .ok (.isub, 1) := by decide +kernel
theorem dX5_back_102 : decode cX5_back 102 = .ok (.iastore, 1) := by decide +kernel
theorem dX5_back_103 : decode cX5_back 103 = .ok (.iinc 3 1, 3) := by decide +kernel
theorem dX5_back_106 : decode cX5_back 106 = .ok (.goto (-70), 3) := by decide +kernel
theorem dX5_back_109 : decode cX5_back 109 = .ok (.aload_n 0, 1) := by decide +kernel
theorem dX5_back_110 : decode cX5_back 110 = .ok (.getfield 29, 3) := by decide +kernel
theorem dX5_back_113 : decode cX5_back 113 = .ok (.iload_n 1, 1) := by decide +kernel
theorem dX5_back_114 : decode cX5_back 114 = .ok (.iaload, 1) := by decide +kernel
theorem dX5_back_115 : decode cX5_back 115 = .ok (.ireturn, 1) := by decide +kernel
set_option maxRecDepth 20000 in
theorem ggX5_at_X5_isWalk : GoodIn wsX5_at wsX5_isWalk := goodIn_r _ [7, 8, 9, 10, 11, 12, 6, 13, 20, 21, 22, 23, 24, 25, 26, 27, 28, 29, 30, 31, 32, 33] (by decide +kernel) (by decide +kernel)
set_option maxRecDepth 20000 in
theorem gX5_at_X5_isWalk : GoodIn wsX5_at (wsV RX5 82 RX5 yX5_isWalk wsX5_isWalk) := goodIn_app (goodIn_of _ (by decide +kernel)) ggX5_at_X5_isWalk
set_option maxRecDepth 20000 in
theorem ggX5_at_X5_isDoor : GoodIn wsX5_at wsX5_isDoor := goodIn_r _ [17, 18, 19, 10, 11, 12, 6, 13, 8, 20, 21, 22, 23, 24, 25, 26, 27, 28, 29, 30, 31, 32, 33] (by decide +kernel) (by decide +kernel)
set_option maxRecDepth 20000 in
theorem gX5_at_X5_isDoor : GoodIn wsX5_at (wsV RX5 60 RX5 yX5_isDoor wsX5_isDoor) := goodIn_app (goodIn_of _ (by decide +kernel)) ggX5_at_X5_isDoor
theorem dX5_at_0 : decode cX5_at 0 = .ok (.aload_n 0, 1) := by decide +kernel
theorem dX5_at_1 : decode cX5_at 1 = .ok (.iload_n 1, 1) := by decide +kernel
theorem dX5_at_2 : decode cX5_at 2 = .ok (.invokevirtual 82, 3) := by decide +kernel
theorem dX5_at_5 : decode cX5_at 5 = .ok (.ifCond .eq 36, 3) := by decide +kernel
theorem dX5_at_8 : decode cX5_at 8 = .ok (.aload_n 0, 1) := by decide +kernel
theorem dX5_at_9 : decode cX5_at 9 = .ok (.aload_n 0, 1) := by decide +kernel
theorem dX5_at_10 : decode cX5_at 10 = .ok (.getfield 26, 3) := by decide +kernel
theorem dX5_at_13 : decode cX5_at 13 = .ok (.iload_n 1, 1) := by decide +kernel
theorem dX5_at_14 : decode cX5_at 14 = .ok (.iaload, 1) := by decide +kernel
theorem dX5_at_15 : decode cX5_at 15 = .ok (.iload_n 2, 1) := by decide +kernel
theorem dX5_at_16 : decode cX5_at 16 = .ok (.iload_n 3, 1) := by decide +kernel
theorem dX5_at_17 : decode cX5_at 17 = .ok (.invokevirtual 60, 3) := by decide +kernel
theorem dX5_at_20 : decode cX5_at 20 = .ok (.ifCond .eq 21, 3) := by decide +kernel
theorem dX5_at_23 : decode cX5_at 23 = .ok (.aload_n 0, 1) := by decide +kernel
theorem dX5_at_24 : decode cX5_at 24 = .ok (.getfield 32, 3) := by decide +kernel
theorem dX5_at_27 : decode cX5_at 27 = .ok (.bipush 48, 2) := by decide +kernel
theorem dX5_at_29 : decode cX5_at 29 = .ok (.iload_n 1, 1) := by decide +kernel
theorem dX5_at_30 : decode cX5_at 30 = .ok (.imul, 1) := by decide +kernel
theorem dX5_at_31 : decode cX5_at 31 = .ok (.iconst 4, 1) := by decide +kernel
theorem dX5_at_32 : decode cX5_at 32 = .ok (.iload_n 2, 1) := by decide +kernel
theorem dX5_at_33 : decode cX5_at 33 = .ok (.imul, 1) := by decide +kernel
theorem dX5_at_34 : decode cX5_at 34 = .ok (.iadd, 1) := by decide +kernel
theorem dX5_at_35 : decode cX5_at 35 = .ok (.iload_n 3, 1) := by decide +kernel
theorem dX5_at_36 : decode cX5_at 36 = .ok (.iadd, 1) := by decide +kernel
theorem dX5_at_37 : decode cX5_at 37 = .ok (.laload, 1) := by decide +kernel
theorem dX5_at_38 : decode cX5_at 38 = .ok (.goto 4, 3) := by decide +kernel
theorem dX5_at_41 : decode cX5_at 41 = .ok (.lconst 0, 1) := by decide +kernel
theorem dX5_at_42 : decode cX5_at 42 = .ok (.lreturn, 1) := by decide +kernel
set_option maxRecDepth 20000 in
theorem ggX5_share_X5_isWalk : GoodIn wsX5_share wsX5_isWalk := goodIn_r _ [5, 6, 7, 8, 9, 10, 4, 11, 27, 28, 29, 30, 31, 32, 33, 34, 35, 36, 37, 38, 39, 40] (by decide +kernel) (by decide +kernel)
set_option maxRecDepth 20000 in
theorem gX5_share_X5_isWalk : GoodIn wsX5_share (wsV RX5 82 RX5 yX5_isWalk wsX5_isWalk) := goodIn_app (goodIn_of _ (by decide +kernel)) ggX5_share_X5_isWalk
set_option maxRecDepth 20000 in
theorem ggX5_share_X5_weight : GoodIn wsX5_share wsX5_weight := goodIn_r _ [15, 16, 17, 18, 4, 19, 20, 27, 28, 29, 30, 31, 32, 33, 34, 35, 36, 37, 38, 39, 40] (by decide +kernel) (by decide +kernel)
set_option maxRecDepth 20000 in
theorem gX5_share_X5_weight : GoodIn wsX5_share (wsV RX5 93 RX5 yX5_weight wsX5_weight) := goodIn_app (goodIn_of _ (by decide +kernel)) ggX5_share_X5_weight
set_option maxRecDepth 20000 in
theorem ggX5_share_X5_isIn : GoodIn wsX5_share wsX5_isIn := goodIn_r _ [24, 25, 26, 8, 9, 10, 4, 11, 6, 27, 28, 29, 30, 31, 32, 33, 34, 35, 36, 37, 38, 39, 40] (by decide +kernel) (by decide +kernel)
set_option maxRecDepth 20000 in
theorem gX5_share_X5_isIn : GoodIn wsX5_share (wsV RX5 129 RX5 yX5_isIn wsX5_isIn) := goodIn_app (goodIn_of _ (by decide +kernel)) ggX5_share_X5_isIn
set_option maxRecDepth 20000 in
theorem ggX5_share_X5_shareOf : GoodIn wsX5_share wsX5_shareOf := goodIn_r _ [19, 20, 27, 28, 29, 30, 31, 32, 33, 34, 35, 36, 37, 38, 39, 40] (by decide +kernel) (by decide +kernel)
set_option maxRecDepth 20000 in
theorem gX5_share_X5_shareOf : GoodIn wsX5_share (wsV RX5 89 RX5 yX5_shareOf wsX5_shareOf) := goodIn_app (goodIn_of _ (by decide +kernel)) ggX5_share_X5_shareOf
theorem dX5_share_0 : decode cX5_share 0 = .ok (.aload_n 0, 1) := by decide +kernel
theorem dX5_share_1 : decode cX5_share 1 = .ok (.iload_n 1, 1) := by decide +kernel
theorem dX5_share_2 : decode cX5_share 2 = .ok (.invokevirtual 82, 3) := by decide +kernel
theorem dX5_share_5 : decode cX5_share 5 = .ok (.ifCond .ne 5, 3) := by decide +kernel
theorem dX5_share_8 : decode cX5_share 8 = .ok (.lconst 0, 1) := by decide +kernel
theorem dX5_share_9 : decode cX5_share 9 = .ok (.lreturn, 1) := by decide +kernel
theorem dX5_share_10 : decode cX5_share 10 = .ok (.iload_n 2, 1) := by decide +kernel
theorem dX5_share_11 : decode cX5_share 11 = .ok (.iconst (-1), 1) := by decide +kernel
theorem dX5_share_12 : decode cX5_share 12 = .ok (.if_icmp .ne 9, 3) := by decide +kernel
theorem dX5_share_15 : decode cX5_share 15 = .ok (.aload_n 0, 1) := by decide +kernel
theorem dX5_share_16 : decode cX5_share 16 = .ok (.iload_n 1, 1) := by decide +kernel
theorem dX5_share_17 : decode cX5_share 17 = .ok (.invokevirtual 93, 3) := by decide +kernel
theorem dX5_share_20 : decode cX5_share 20 = .ok (.lreturn, 1) := by decide +kernel
theorem dX5_share_21 : decode cX5_share 21 = .ok (.aload_n 0, 1) := by decide +kernel
theorem dX5_share_22 : decode cX5_share 22 = .ok (.iload_n 1, 1) := by decide +kernel
theorem dX5_share_23 : decode cX5_share 23 = .ok (.iload_n 2, 1) := by decide +kernel
theorem dX5_share_24 : decode cX5_share 24 = .ok (.invokevirtual 129, 3) := by decide +kernel
theorem dX5_share_27 : decode cX5_share 27 = .ok (.ifCond .eq 12, 3) := by decide +kernel
theorem dX5_share_30 : decode cX5_share 30 = .ok (.aload_n 0, 1) := by decide +kernel
theorem dX5_share_31 : decode cX5_share 31 = .ok (.iload_n 1, 1) := by decide +kernel
theorem dX5_share_32 : decode cX5_share 32 = .ok (.iload_n 2, 1) := by decide +kernel
theorem dX5_share_33 : decode cX5_share 33 = .ok (.invokevirtual 89, 3) := by decide +kernel
theorem dX5_share_36 : decode cX5_share 36 = .ok (.goto 4, 3) := by decide +kernel
theorem dX5_share_39 : decode cX5_share 39 = .ok (.lconst 0, 1) := by decide +kernel
theorem dX5_share_40 : decode cX5_share 40 = .ok (.lreturn, 1) := by decide +kernel
set_option maxRecDepth 20000 in
theorem ggX5_of_X5_isWalk : GoodIn wsX5_of wsX5_isWalk := goodIn_r _ [7, 8, 9, 10, 11, 12, 6, 13, 19, 20, 21, 22, 23, 24, 25, 26, 27, 28, 29, 30, 31, 32] (by decide +kernel) (by decide +kernel)
set_option maxRecDepth 20000 in
theorem gX5_of_X5_isWalk : GoodIn wsX5_of (wsV RX5 82 RX5 yX5_isWalk wsX5_isWalk) := goodIn_app (goodIn_of _ (by decide +kernel)) ggX5_of_X5_isWalk
set_option maxRecDepth 20000 in
theorem ggX5_of_X5_right : GoodIn wsX5_of wsX5_right := goodIn_r _ [13, 8, 19, 20, 21, 22, 23, 24, 25, 26, 27, 28, 29, 30, 31, 32] (by decide +kernel) (by decide +kernel)
set_option maxRecDepth 20000 in
theorem gX5_of_X5_right : GoodIn wsX5_of (wsV RX5 52 RX5 yX5_right wsX5_right) := goodIn_app (goodIn_of _ (by decide +kernel)) ggX5_of_X5_right
set_option maxRecDepth 20000 in
theorem ggX5_of_X5_scale : GoodIn wsX5_of wsX5_scale := goodIn_r _ [17, 18, 1, 19, 20, 21, 22, 23, 24, 25, 26, 27, 28, 29, 30, 31, 32] (by decide +kernel) (by decide +kernel)
set_option maxRecDepth 20000 in
theorem gX5_of_X5_scale : GoodIn wsX5_of (wsV RX5 99 RX5 yX5_scale wsX5_scale) := goodIn_app (goodIn_of _ (by decide +kernel)) ggX5_of_X5_scale
theorem dX5_of_0 : decode cX5_of 0 = .ok (.aload_n 0, 1) := by decide +kernel
theorem dX5_of_1 : decode cX5_of 1 = .ok (.iload_n 1, 1) := by decide +kernel
theorem dX5_of_2 : decode cX5_of 2 = .ok (.invokevirtual 82, 3) := by decide +kernel
theorem dX5_of_5 : decode cX5_of 5 = .ok (.ifCond .eq 25, 3) := by decide +kernel
theorem dX5_of_8 : decode cX5_of 8 = .ok (.aload_n 0, 1) := by decide +kernel
theorem dX5_of_9 : decode cX5_of 9 = .ok (.iload_n 2, 1) := by decide +kernel
theorem dX5_of_10 : decode cX5_of 10 = .ok (.ifCond .lt 12, 3) := by decide +kernel
theorem dX5_of_13 : decode cX5_of 13 = .ok (.iload_n 2, 1) := by decide +kernel
theorem dX5_of_14 : decode cX5_of 14 = .ok (.iconst 2, 1) := by decide +kernel
theorem dX5_of_15 : decode cX5_of 15 = .ok (.if_icmp .gt 7, 3) := by decide +kernel
theorem dX5_of_18 : decode cX5_of 18 = .ok (.iconst 1, 1) := by decide +kernel
theorem dX5_of_19 : decode cX5_of 19 = .ok (.goto 4, 3) := by decide +kernel
theorem dX5_of_22 : decode cX5_of 22 = .ok (.iconst 0, 1) := by decide +kernel
theorem dX5_of_23 : decode cX5_of 23 = .ok (.iconst 1, 1) := by decide +kernel
theorem dX5_of_24 : decode cX5_of 24 = .ok (.invokevirtual 52, 3) := by decide +kernel
theorem dX5_of_27 : decode cX5_of 27 = .ok (.ifCond .ne 5, 3) := by decide +kernel
theorem dX5_of_30 : decode cX5_of 30 = .ok (.iconst 0, 1) := by decide +kernel
theorem dX5_of_31 : decode cX5_of 31 = .ok (.ireturn, 1) := by decide +kernel
theorem dX5_of_32 : decode cX5_of 32 = .ok (.iload_n 2, 1) := by decide +kernel
theorem dX5_of_33 : decode cX5_of 33 = .ok (.ifCond .ne 12, 3) := by decide +kernel
theorem dX5_of_36 : decode cX5_of 36 = .ok (.aload_n 0, 1) := by decide +kernel
theorem dX5_of_37 : decode cX5_of 37 = .ok (.getfield 26, 3) := by decide +kernel
theorem dX5_of_40 : decode cX5_of 40 = .ok (.iload_n 1, 1) := by decide +kernel
theorem dX5_of_41 : decode cX5_of 41 = .ok (.iaload, 1) := by decide +kernel
theorem dX5_of_42 : decode cX5_of 42 = .ok (.goto 22, 3) := by decide +kernel
theorem dX5_of_45 : decode cX5_of 45 = .ok (.iload_n 2, 1) := by decide +kernel
theorem dX5_of_46 : decode cX5_of 46 = .ok (.iconst 1, 1) := by decide +kernel
theorem dX5_of_47 : decode cX5_of 47 = .ok (.if_icmp .ne 12, 3) := by decide +kernel
theorem dX5_of_50 : decode cX5_of 50 = .ok (.aload_n 0, 1) := by decide +kernel
theorem dX5_of_51 : decode cX5_of 51 = .ok (.getfield 29, 3) := by decide +kernel
theorem dX5_of_54 : decode cX5_of 54 = .ok (.iload_n 1, 1) := by decide +kernel
theorem dX5_of_55 : decode cX5_of 55 = .ok (.iaload, 1) := by decide +kernel
theorem dX5_of_56 : decode cX5_of 56 = .ok (.goto 8, 3) := by decide +kernel
theorem dX5_of_59 : decode cX5_of 59 = .ok (.aload_n 0, 1) := by decide +kernel
theorem dX5_of_60 : decode cX5_of 60 = .ok (.iload_n 1, 1) := by decide +kernel
theorem dX5_of_61 : decode cX5_of 61 = .ok (.invokevirtual 99, 3) := by decide +kernel
theorem dX5_of_64 : decode cX5_of 64 = .ok (.ireturn, 1) := by decide +kernel
set_option maxRecDepth 20000 in
theorem ggX5_arrives_X5_isWalk : GoodIn wsX5_arrives wsX5_isWalk := goodIn_r _ [5, 6, 7, 8, 9, 10, 4, 11, 66, 67, 68, 69, 70, 71, 72, 73, 74, 75, 76, 77, 78, 79] (by decide +kernel) (by decide +kernel)
set_option maxRecDepth 20000 in
theorem gX5_arrives_X5_isWalk : GoodIn wsX5_arrives (wsV RX5 82 RX5 yX5_isWalk wsX5_isWalk) := goodIn_app (goodIn_of _ (by decide +kernel)) ggX5_arrives_X5_isWalk
set_option maxRecDepth 20000 in
theorem ggX5_arrives_X5_isIn : GoodIn wsX5_arrives wsX5_isIn := goodIn_r _ [15, 16, 17, 8, 9, 10, 4, 11, 6, 66, 67, 68, 69, 70, 71, 72, 73, 74, 75, 76, 77, 78, 79] (by decide +kernel) (by decide +kernel)
set_option maxRecDepth 20000 in
theorem gX5_arrives_X5_isIn : GoodIn wsX5_arrives (wsV RX5 129 RX5 yX5_isIn wsX5_isIn) := goodIn_app (goodIn_of _ (by decide +kernel)) ggX5_arrives_X5_isIn
set_option maxRecDepth 20000 in
theorem ggX5_arrives_X5_isMany : GoodIn wsX5_arrives wsX5_isMany := goodIn_r _ [20] (by decide +kernel) (by decide +kernel)
set_option maxRecDepth 20000 in
theorem gX5_arrives_X5_isMany : GoodIn wsX5_arrives (va_wsS RX5 116 yX5_isMany wsX5_isMany) := goodIn_app (goodIn_of _ (by decide +kernel)) ggX5_arrives_X5_isMany
set_option maxRecDepth 20000 in
theorem ggX5_arrives_X5_right : GoodIn wsX5_arrives wsX5_right := goodIn_r _ [11, 6, 66, 67, 68, 69, 70, 71, 72, 73, 74, 75, 76, 77, 78, 79] (by decide +kernel) (by decide +kernel)
set_option maxRecDepth 20000 in
theorem gX5_arrives_X5_right : GoodIn wsX5_arrives (wsV RX5 52 RX5 yX5_right wsX5_right) := goodIn_app (goodIn_of _ (by decide +kernel)) ggX5_arrives_X5_right
set_option maxRecDepth 20000 in
theorem ggX5_arrives_X5_copies : GoodIn wsX5_arrives wsX5_copies := goodIn_r _ [24, 17, 25, 26, 66, 67, 68, 69, 70, 71, 72, 73, 74, 75, 76, 77, 78, 79] (by decide +kernel) (by decide +kernel)
set_option maxRecDepth 20000 in
theorem gX5_arrives_X5_copies : GoodIn wsX5_arrives (wsV RX5 119 RX5 yX5_copies wsX5_copies) := goodIn_app (goodIn_of _ (by decide +kernel)) ggX5_arrives_X5_copies
set_option maxRecDepth 20000 in
theorem ggX5_arrives_X5_shareOf : GoodIn wsX5_arrives wsX5_shareOf := goodIn_r _ [30, 26, 66, 67, 68, 69, 70, 71, 72, 73, 74, 75, 76, 77, 78, 79] (by decide +kernel) (by decide +kernel)
set_option maxRecDepth 20000 in
theorem gX5_arrives_X5_shareOf : GoodIn wsX5_arrives (wsV RX5 89 RX5 yX5_shareOf wsX5_shareOf) := goodIn_app (goodIn_of _ (by decide +kernel)) ggX5_arrives_X5_shareOf
set_option maxRecDepth 20000 in
theorem ggX5_arrives_X5_weight : GoodIn wsX5_arrives wsX5_weight := goodIn_r _ [34, 27, 28, 29, 4, 30, 26, 66, 67, 68, 69, 70, 71, 72, 73, 74, 75, 76, 77, 78, 79] (by decide +kernel) (by decide +kernel)
set_option maxRecDepth 20000 in
theorem gX5_arrives_X5_weight : GoodIn wsX5_arrives (wsV RX5 93 RX5 yX5_weight wsX5_weight) := goodIn_app (goodIn_of _ (by decide +kernel)) ggX5_arrives_X5_weight
set_option maxRecDepth 20000 in
theorem ggX5_arrives_X5_goesOn : GoodIn wsX5_arrives wsX5_goesOn := goodIn_r _ [38, 25, 39, 31, 32, 33, 4, 34, 27, 28, 29, 30, 26, 40, 41, 42, 43, 44, 17, 66, 67, 68, 69, 70, 71, 72, 73, 74, 75, 76, 77, 78, 79] (by decide +kernel) (by decide +kernel)
set_option maxRecDepth 20000 in
theorem gX5_arrives_X5_goesOn : GoodIn wsX5_arrives (wsV RX5 123 RX5 yX5_goesOn wsX5_goesOn) := goodIn_app (goodIn_of _ (by decide +kernel)) ggX5_arrives_X5_goesOn
set_option maxRecDepth 20000 in
theorem ggX5_arrives_X5_steps : GoodIn wsX5_arrives wsX5_steps := goodIn_r _ [48, 25, 49, 50, 51, 4, 52, 16, 17, 53, 26, 54, 55, 56, 57, 44, 58, 59, 60, 61, 62, 63, 64, 65, 66, 67, 68, 69, 70, 71, 72, 73, 74, 75, 76, 77, 78, 79] (by decide +kernel) (by decide +kernel)
set_option maxRecDepth 20000 in
theorem gX5_arrives_X5_steps : GoodIn wsX5_arrives (wsV RX5 126 RX5 yX5_steps wsX5_steps) := goodIn_app (goodIn_of _ (by decide +kernel)) ggX5_arrives_X5_steps
theorem dX5_arrives_0 : decode cX5_arrives 0 = .ok (.aload_n 0, 1) := by decide +kernel
theorem dX5_arrives_1 : decode cX5_arrives 1 = .ok (.iload_n 1, 1) := by decide +kernel
theorem dX5_arrives_2 : decode cX5_arrives 2 = .ok (.invokevirtual 82, 3) := by decide +kernel
theorem dX5_arrives_5 : decode cX5_arrives 5 = .ok (.ifCond .eq 24, 3) := by decide +kernel
theorem dX5_arrives_8 : decode cX5_arrives 8 = .ok (.aload_n 0, 1) := by decide +kernel
theorem dX5_arrives_9 : decode cX5_arrives 9 = .ok (.iload_n 1, 1) := by decide +kernel
theorem dX5_arrives_10 : decode cX5_arrives 10 = .ok (.iload_n 2, 1) := by decide +kernel
theorem dX5_arrives_11 : decode cX5_arrives 11 = .ok (.invokevirtual 129, 3) := by decide +kernel
theorem dX5_arrives_14 : decode cX5_arrives 14 = .ok (.ifCond .eq 15, 3) := by decide +kernel
theorem dX5_arrives_17 : decode cX5_arrives 17 = .ok (.aload_n 0, 1) := by decide +kernel
theorem dX5_arrives_18 : decode cX5_arrives 18 = .ok (.iload_n 3, 1) := by decide +kernel
theorem dX5_arrives_19 : decode cX5_arrives 19 = .ok (.invokestatic 116, 3) := by decide +kernel
theorem dX5_arrives_22 : decode cX5_arrives 22 = .ok (.iconst 2, 1) := by decide +kernel
theorem dX5_arrives_23 : decode cX5_arrives 23 = .ok (.invokevirtual 52, 3) := by decide +kernel
theorem dX5_arrives_26 : decode cX5_arrives 26 = .ok (.ifCond .ne 5, 3) := by decide +kernel
theorem dX5_arrives_29 : decode cX5_arrives 29 = .ok (.iconst 0, 1) := by decide +kernel
theorem dX5_arrives_30 : decode cX5_arrives 30 = .ok (.ireturn, 1) := by decide +kernel
theorem dX5_arrives_31 : decode cX5_arrives 31 = .ok (.aload_n 0, 1) := by decide +kernel
theorem dX5_arrives_32 : decode cX5_arrives 32 = .ok (.iload_n 1, 1) := by decide +kernel
theorem dX5_arrives_33 : decode cX5_arrives 33 = .ok (.bipush 12, 2) := by decide +kernel
theorem dX5_arrives_35 : decode cX5_arrives 35 = .ok (.invokevirtual 119, 3) := by decide +kernel
theorem dX5_arrives_38 : decode cX5_arrives 38 = .ok (.iconst 0, 1) := by decide +kernel
theorem dX5_arrives_39 : decode cX5_arrives 39 = .ok (.istore 4, 2) := by decide +kernel
theorem dX5_arrives_41 : decode cX5_arrives 41 = .ok (.iload 4, 2) := by decide +kernel
theorem dX5_arrives_43 : decode cX5_arrives 43 = .ok (.iload_n 3, 1) := by decide +kernel
theorem dX5_arrives_44 : decode cX5_arrives 44 = .ok (.if_icmp .gt 57, 3) := by decide +kernel
theorem dX5_arrives_47 : decode cX5_arrives 47 = .ok (.aload_n 0, 1) := by decide +kernel
theorem dX5_arrives_48 : decode cX5_arrives 48 = .ok (.bipush 12, 2) := by decide +kernel
theorem dX5_arrives_50 : decode cX5_arrives 50 = .ok (.iload_n 2, 1) := by decide +kernel
theorem dX5_arrives_51 : decode cX5_arrives 51 = .ok (.invokevirtual 89, 3) := by decide +kernel
theorem dX5_arrives_54 : decode cX5_arrives 54 = .ok (.lstore 5, 2) := by decide +kernel
theorem dX5_arrives_56 : decode cX5_arrives 56 = .ok (.lload 5, 2) := by decide +kernel
theorem dX5_arrives_58 : decode cX5_arrives 58 = .ok (.lconst 0, 1) := by decide +kernel
theorem dX5_arrives_59 : decode cX5_arrives 59 = .ok (.lcmp, 1) := by decide +kernel
theorem dX5_arrives_60 : decode cX5_arrives 60 = .ok (.ifCond .le 18, 3) := by decide +kernel
theorem dX5_arrives_63 : decode cX5_arrives 63 = .ok (.lload 5, 2) := by decide +kernel
theorem dX5_arrives_65 : decode cX5_arrives 65 = .ok (.aload_n 0, 1) := by decide +kernel
theorem dX5_arrives_66 : decode cX5_arrives 66 = .ok (.bipush 12, 2) := by decide +kernel
theorem dX5_arrives_68 : decode cX5_arrives 68 = .ok (.invokevirtual 93, 3) := by decide +kernel
theorem dX5_arrives_71 : decode cX5_arrives 71 = .ok (.lcmp, 1) := by decide +kernel
theorem dX5_arrives_72 : decode cX5_arrives 72 = .ok (.ifCond .ne 6, 3) := by decide +kernel
theorem dX5_arrives_75 : decode cX5_arrives 75 = .ok (.iload 4, 2) := by decide +kernel
theorem dX5_arrives_77 : decode cX5_arrives 77 = .ok (.ireturn, 1) := by decide +kernel
theorem dX5_arrives_78 : decode cX5_arrives 78 = .ok (.aload_n 0, 1) := by decide +kernel
theorem dX5_arrives_79 : decode cX5_arrives 79 = .ok (.bipush 12, 2) := by decide +kernel
theorem dX5_arrives_81 : decode cX5_arrives 81 = .ok (.invokevirtual 123, 3) := by decide +kernel
theorem dX5_arrives_84 : decode cX5_arrives 84 = .ok (.ifCond .ne 5, 3) := by decide +kernel
theorem dX5_arrives_87 : decode cX5_arrives 87 = .ok (.iconst (-1), 1) := by decide +kernel
theorem dX5_arrives_88 : decode cX5_arrives 88 = .ok (.ireturn, 1) := by decide +kernel
theorem dX5_arrives_89 : decode cX5_arrives 89 = .ok (.aload_n 0, 1) := by decide +kernel
theorem dX5_arrives_90 : decode cX5_arrives 90 = .ok (.bipush 12, 2) := by decide +kernel
theorem dX5_arrives_92 : decode cX5_arrives 92 = .ok (.invokevirtual 126, 3) := by decide +kernel
theorem dX5_arrives_95 : decode cX5_arrives 95 = .ok (.iinc 4 1, 3) := by decide +kernel
theorem dX5_arrives_98 : decode cX5_arrives 98 = .ok (.goto (-57), 3) := by decide +kernel
theorem dX5_arrives_101 : decode cX5_arrives 101 = .ok (.iconst (-1), 1) := by decide +kernel
theorem dX5_arrives_102 : decode cX5_arrives 102 = .ok (.ireturn, 1) := by decide +kernel
theorem dX5_isMultiple_0 : decode cX5_isMultiple 0 = .ok (.iconst 0, 1) := by decide +kernel
theorem dX5_isMultiple_1 : decode cX5_isMultiple 1 = .ok (.istore_n 3, 1) := by decide +kernel
theorem dX5_isMultiple_2 : decode cX5_isMultiple 2 = .ok (.aload_n 0, 1) := by decide +kernel
theorem dX5_isMultiple_3 : decode cX5_isMultiple 3 = .ok (.getfield 32, 3) := by decide +kernel
theorem dX5_isMultiple_6 : decode cX5_isMultiple 6 = .ok (.bipush 48, 2) := by decide +kernel
theorem dX5_isMultiple_8 : decode cX5_isMultiple 8 = .ok (.iload_n 2, 1) := by decide +kernel
theorem dX5_isMultiple_9 : decode cX5_isMultiple 9 = .ok (.imul, 1) := by decide +kernel
theorem dX5_isMultiple_10 : decode cX5_isMultiple 10 = .ok (.iload_n 3, 1) := by decide +kernel
theorem dX5_isMultiple_11 : decode cX5_isMultiple 11 = .ok (.iadd, 1) := by decide +kernel
theorem dX5_isMultiple_12 : decode cX5_isMultiple 12 = .ok (.laload, 1) := by decide +kernel
theorem dX5_isMultiple_13 : decode cX5_isMultiple 13 = .ok (.lconst 0, 1) := by decide +kernel
theorem dX5_isMultiple_14 : decode cX5_isMultiple 14 = .ok (.lcmp, 1) := by decide +kernel
theorem dX5_isMultiple_15 : decode cX5_isMultiple 15 = .ok (.ifCond .ne 9, 3) := by decide +kernel
theorem dX5_isMultiple_18 : decode cX5_isMultiple 18 = .ok (.iinc 3 1, 3) := by decide +kernel
theorem dX5_isMultiple_21 : decode cX5_isMultiple 21 = .ok (.goto (-19), 3) := by decide +kernel
theorem dX5_isMultiple_24 : decode cX5_isMultiple 24 = .ok (.aload_n 0, 1) := by decide +kernel
theorem dX5_isMultiple_25 : decode cX5_isMultiple 25 = .ok (.getfield 32, 3) := by decide +kernel
theorem dX5_isMultiple_28 : decode cX5_isMultiple 28 = .ok (.bipush 48, 2) := by decide +kernel
theorem dX5_isMultiple_30 : decode cX5_isMultiple 30 = .ok (.iload_n 1, 1) := by decide +kernel
theorem dX5_isMultiple_31 : decode cX5_isMultiple 31 = .ok (.imul, 1) := by decide +kernel
theorem dX5_isMultiple_32 : decode cX5_isMultiple 32 = .ok (.iload_n 3, 1) := by decide +kernel
theorem dX5_isMultiple_33 : decode cX5_isMultiple 33 = .ok (.iadd, 1) := by decide +kernel
theorem dX5_isMultiple_34 : decode cX5_isMultiple 34 = .ok (.laload, 1) := by decide +kernel
theorem dX5_isMultiple_35 : decode cX5_isMultiple 35 = .ok (.lconst 0, 1) := by decide +kernel
theorem dX5_isMultiple_36 : decode cX5_isMultiple 36 = .ok (.lcmp, 1) := by decide +kernel
theorem dX5_isMultiple_37 : decode cX5_isMultiple 37 = .ok (.ifCond .eq 7, 3) := by decide +kernel
theorem dX5_isMultiple_40 : decode cX5_isMultiple 40 = .ok (.iconst 1, 1) := by decide +kernel
theorem dX5_isMultiple_41 : decode cX5_isMultiple 41 = .ok (.goto 4, 3) := by decide +kernel
theorem dX5_isMultiple_44 : decode cX5_isMultiple 44 = .ok (.iconst 0, 1) := by decide +kernel
theorem dX5_isMultiple_45 : decode cX5_isMultiple 45 = .ok (.istore 4, 2) := by decide +kernel
theorem dX5_isMultiple_47 : decode cX5_isMultiple 47 = .ok (.iconst 0, 1) := by decide +kernel
theorem dX5_isMultiple_48 : decode cX5_isMultiple 48 = .ok (.istore 5, 2) := by decide +kernel
theorem dX5_isMultiple_50 : decode cX5_isMultiple 50 = .ok (.iload 5, 2) := by decide +kernel
theorem dX5_isMultiple_52 : decode cX5_isMultiple 52 = .ok (.bipush 48, 2) := by decide +kernel
theorem dX5_isMultiple_54 : decode cX5_isMultiple 54 = .ok (.if_icmp .ge 73, 3) := by decide +kernel
theorem dX5_isMultiple_57 : decode cX5_isMultiple 57 = .ok (.iload 4, 2) := by decide +kernel
theorem dX5_isMultiple_59 : decode cX5_isMultiple 59 = .ok (.ifCond .eq 59, 3) := by decide +kernel
theorem dX5_isMultiple_62 : decode cX5_isMultiple 62 = .ok (.aload_n 0, 1) := by decide +kernel
theorem dX5_isMultiple_63 : decode cX5_isMultiple 63 = .ok (.getfield 32, 3) := by decide +kernel
theorem dX5_isMultiple_66 : decode cX5_isMultiple 66 = .ok (.bipush 48, 2) := by decide +kernel
theorem dX5_isMultiple_68 : decode cX5_isMultiple 68 = .ok (.iload_n 1, 1) := by decide +kernel
theorem dX5_isMultiple_69 : decode cX5_isMultiple 69 = .ok (.imul, 1) := by decide +kernel
theorem dX5_isMultiple_70 : decode cX5_isMultiple 70 = .ok (.iload 5, 2) := by decide +kernel
theorem dX5_isMultiple_72 : decode cX5_isMultiple 72 = .ok (.iadd, 1) := by decide +kernel
theorem dX5_isMultiple_73 : decode cX5_isMultiple 73 = .ok (.laload, 1) := by decide +kernel
theorem dX5_isMultiple_74 : decode cX5_isMultiple 74 = .ok (.aload_n 0, 1) := by decide +kernel
theorem dX5_isMultiple_75 : decode cX5_isMultiple 75 = .ok (.getfield 32, 3) := by decide +kernel
theorem dX5_isMultiple_78 : decode cX5_isMultiple 78 = .ok (.bipush 48, 2) := by decide +kernel
theorem dX5_isMultiple_80 : decode cX5_isMultiple 80 = .ok (.iload_n 2, 1) := by decide +kernel
theorem dX5_isMultiple_81 : decode cX5_isMultiple 81 = .ok (.imul, 1) := by decide +kernel
theorem dX5_isMultiple_82 : decode cX5_isMultiple 82 = .ok (.iload_n 3, 1) := by decide +kernel
theorem dX5_isMultiple_83 : decode cX5_isMultiple 83 = .ok (.iadd, 1) := by decide +kernel
theorem dX5_isMultiple_84 : decode cX5_isMultiple 84 = .ok (.laload, 1) := by decide +kernel
theorem dX5_isMultiple_85 : decode cX5_isMultiple 85 = .ok (.lmul, 1) := by decide +kernel
theorem dX5_isMultiple_86 : decode cX5_isMultiple 86 = .ok (.aload_n 0, 1) := by decide +kernel
theorem dX5_isMultiple_87 : decode cX5_isMultiple 87 = .ok (.getfield 32, 3) := by decide +kernel
theorem dX5_isMultiple_90 : decode cX5_isMultiple 90 = .ok (.bipush 48, 2) := by decide +kernel
theorem dX5_isMultiple_92 : decode cX5_isMultiple 92 = .ok (.iload_n 2, 1) := by decide +kernel
theorem dX5_isMultiple_93 : decode cX5_isMultiple 93 = .ok (.imul, 1) := by decide +kernel
theorem dX5_isMultiple_94 : decode cX5_isMultiple 94 = .ok (.iload 5, 2) := by decide +kernel
theorem dX5_isMultiple_96 : decode cX5_isMultiple 96 = .ok (.iadd, 1) := by decide +kernel
theorem dX5_isMultiple_97 : decode cX5_isMultiple 97 = .ok (.laload, 1) := by decide +kernel
theorem dX5_isMultiple_98 : decode cX5_isMultiple 98 = .ok (.aload_n 0, 1) := by decide +kernel
theorem dX5_isMultiple_99 : decode cX5_isMultiple 99 = .ok (.getfield 32, 3) := by decide +kernel
theorem dX5_isMultiple_102 : decode cX5_isMultiple 102 = .ok (.bipush 48, 2) := by decide +kernel
theorem dX5_isMultiple_104 : decode cX5_isMultiple 104 = .ok (.iload_n 1, 1) := by decide +kernel
theorem dX5_isMultiple_105 : decode cX5_isMultiple 105 = .ok (.imul, 1) := by decide +kernel
theorem dX5_isMultiple_106 : decode cX5_isMultiple 106 = .ok (.iload_n 3, 1) := by decide +kernel
theorem dX5_isMultiple_107 : decode cX5_isMultiple 107 = .ok (.iadd, 1) := by decide +kernel
theorem dX5_isMultiple_108 : decode cX5_isMultiple 108 = .ok (.laload, 1) := by decide +kernel
theorem dX5_isMultiple_109 : decode cX5_isMultiple 109 = .ok (.lmul, 1) := by decide +kernel
theorem dX5_isMultiple_110 : decode cX5_isMultiple 110 = .ok (.lcmp, 1) := by decide +kernel
theorem dX5_isMultiple_111 : decode cX5_isMultiple 111 = .ok (.ifCond .ne 7, 3) := by decide +kernel
theorem dX5_isMultiple_114 : decode cX5_isMultiple 114 = .ok (.iconst 1, 1) := by decide +kernel
theorem dX5_isMultiple_115 : decode cX5_isMultiple 115 = .ok (.goto 4, 3) := by decide +kernel
theorem dX5_isMultiple_118 : decode cX5_isMultiple 118 = .ok (.iconst 0, 1) := by decide +kernel
theorem dX5_isMultiple_119 : decode cX5_isMultiple 119 = .ok (.istore 4, 2) := by decide +kernel
theorem dX5_isMultiple_121 : decode cX5_isMultiple 121 = .ok (.iinc 5 1, 3) := by decide +kernel
theorem dX5_isMultiple_124 : decode cX5_isMultiple 124 = .ok (.goto (-74), 3) := by decide +kernel
theorem dX5_isMultiple_127 : decode cX5_isMultiple 127 = .ok (.iload 4, 2) := by decide +kernel
theorem dX5_isMultiple_129 : decode cX5_isMultiple 129 = .ok (.ireturn, 1) := by decide +kernel
set_option maxRecDepth 20000 in
theorem ggX5_returns_X5_isWalk : GoodIn wsX5_returns wsX5_isWalk := goodIn_r _ [5, 6, 7, 8, 9, 10, 4, 11, 66, 67, 68, 69, 70, 71, 72, 73, 74, 75, 76, 77, 78, 79] (by decide +kernel) (by decide +kernel)
set_option maxRecDepth 20000 in
theorem gX5_returns_X5_isWalk : GoodIn wsX5_returns (wsV RX5 82 RX5 yX5_isWalk wsX5_isWalk) := goodIn_app (goodIn_of _ (by decide +kernel)) ggX5_returns_X5_isWalk
set_option maxRecDepth 20000 in
theorem ggX5_returns_X5_isMany : GoodIn wsX5_returns wsX5_isMany := goodIn_r _ [14] (by decide +kernel) (by decide +kernel)
set_option maxRecDepth 20000 in
theorem gX5_returns_X5_isMany : GoodIn wsX5_returns (va_wsS RX5 116 yX5_isMany wsX5_isMany) := goodIn_app (goodIn_of _ (by decide +kernel)) ggX5_returns_X5_isMany
set_option maxRecDepth 20000 in
theorem ggX5_returns_X5_right : GoodIn wsX5_returns wsX5_right := goodIn_r _ [11, 6, 66, 67, 68, 69, 70, 71, 72, 73, 74, 75, 76, 77, 78, 79] (by decide +kernel) (by decide +kernel)
set_option maxRecDepth 20000 in
theorem gX5_returns_X5_right : GoodIn wsX5_returns (wsV RX5 52 RX5 yX5_right wsX5_right) := goodIn_app (goodIn_of _ (by decide +kernel)) ggX5_returns_X5_right
set_option maxRecDepth 20000 in
theorem ggX5_returns_X5_weight : GoodIn wsX5_returns wsX5_weight := goodIn_r _ [18, 19, 20, 21, 4, 22, 23, 66, 67, 68, 69, 70, 71, 72, 73, 74, 75, 76, 77, 78, 79] (by decide +kernel) (by decide +kernel)
set_option maxRecDepth 20000 in
theorem gX5_returns_X5_weight : GoodIn wsX5_returns (wsV RX5 93 RX5 yX5_weight wsX5_weight) := goodIn_app (goodIn_of _ (by decide +kernel)) ggX5_returns_X5_weight
set_option maxRecDepth 20000 in
theorem ggX5_returns_X5_copies : GoodIn wsX5_returns wsX5_copies := goodIn_r _ [27, 28, 29, 23, 66, 67, 68, 69, 70, 71, 72, 73, 74, 75, 76, 77, 78, 79] (by decide +kernel) (by decide +kernel)
set_option maxRecDepth 20000 in
theorem gX5_returns_X5_copies : GoodIn wsX5_returns (wsV RX5 119 RX5 yX5_copies wsX5_copies) := goodIn_app (goodIn_of _ (by decide +kernel)) ggX5_returns_X5_copies
set_option maxRecDepth 20000 in
theorem ggX5_returns_X5_goesOn : GoodIn wsX5_returns wsX5_goesOn := goodIn_r _ [33, 29, 34, 15, 16, 17, 4, 18, 19, 20, 21, 22, 23, 35, 36, 37, 38, 39, 28, 66, 67, 68, 69, 70, 71, 72, 73, 74, 75, 76, 77, 78, 79] (by decide +kernel) (by decide +kernel)
set_option maxRecDepth 20000 in
theorem gX5_returns_X5_goesOn : GoodIn wsX5_returns (wsV RX5 123 RX5 yX5_goesOn wsX5_goesOn) := goodIn_app (goodIn_of _ (by decide +kernel)) ggX5_returns_X5_goesOn
set_option maxRecDepth 20000 in
theorem ggX5_returns_X5_steps : GoodIn wsX5_returns wsX5_steps := goodIn_r _ [43, 29, 44, 45, 46, 4, 47, 48, 28, 49, 23, 50, 51, 52, 53, 39, 54, 55, 56, 57, 58, 59, 60, 61, 66, 67, 68, 69, 70, 71, 72, 73, 74, 75, 76, 77, 78, 79] (by decide +kernel) (by decide +kernel)
set_option maxRecDepth 20000 in
theorem gX5_returns_X5_steps : GoodIn wsX5_returns (wsV RX5 126 RX5 yX5_steps wsX5_steps) := goodIn_app (goodIn_of _ (by decide +kernel)) ggX5_returns_X5_steps
set_option maxRecDepth 20000 in
theorem ggX5_returns_X5_isMultiple : GoodIn wsX5_returns wsX5_isMultiple := goodIn_r _ [65, 23, 66, 67, 68, 69, 70, 71, 72, 73, 74, 75, 76, 77, 78, 79] (by decide +kernel) (by decide +kernel)
set_option maxRecDepth 20000 in
theorem gX5_returns_X5_isMultiple : GoodIn wsX5_returns (wsV RX5 133 RX5 yX5_isMultiple wsX5_isMultiple) := goodIn_app (goodIn_of _ (by decide +kernel)) ggX5_returns_X5_isMultiple
theorem dX5_returns_0 : decode cX5_returns 0 = .ok (.aload_n 0, 1) := by decide +kernel
theorem dX5_returns_1 : decode cX5_returns 1 = .ok (.iload_n 1, 1) := by decide +kernel
theorem dX5_returns_2 : decode cX5_returns 2 = .ok (.invokevirtual 82, 3) := by decide +kernel
theorem dX5_returns_5 : decode cX5_returns 5 = .ok (.ifCond .eq 15, 3) := by decide +kernel
theorem dX5_returns_8 : decode cX5_returns 8 = .ok (.aload_n 0, 1) := by decide +kernel
theorem dX5_returns_9 : decode cX5_returns 9 = .ok (.iload_n 2, 1) := by decide +kernel
theorem dX5_returns_10 : decode cX5_returns 10 = .ok (.invokestatic 116, 3) := by decide +kernel
theorem dX5_returns_13 : decode cX5_returns 13 = .ok (.iconst 2, 1) := by decide +kernel
theorem dX5_returns_14 : decode cX5_returns 14 = .ok (.invokevirtual 52, 3) := by decide +kernel
theorem dX5_returns_17 : decode cX5_returns 17 = .ok (.ifCond .ne 5, 3) := by decide +kernel
theorem dX5_returns_20 : decode cX5_returns 20 = .ok (.iconst 0, 1) := by decide +kernel
theorem dX5_returns_21 : decode cX5_returns 21 = .ok (.ireturn, 1) := by decide +kernel
theorem dX5_returns_22 : decode cX5_returns 22 = .ok (.aload_n 0, 1) := by decide +kernel
theorem dX5_returns_23 : decode cX5_returns 23 = .ok (.iload_n 1, 1) := by decide +kernel
theorem dX5_returns_24 : decode cX5_returns 24 = .ok (.invokevirtual 93, 3) := by decide +kernel
theorem dX5_returns_27 : decode cX5_returns 27 = .ok (.lconst 0, 1) := by decide +kernel
theorem dX5_returns_28 : decode cX5_returns 28 = .ok (.lcmp, 1) := by decide +kernel
theorem dX5_returns_29 : decode cX5_returns 29 = .ok (.ifCond .ne 5, 3) := by decide +kernel
theorem dX5_returns_32 : decode cX5_returns 32 = .ok (.iconst (-1), 1) := by decide +kernel
theorem dX5_returns_33 : decode cX5_returns 33 = .ok (.ireturn, 1) := by decide +kernel
theorem dX5_returns_34 : decode cX5_returns 34 = .ok (.aload_n 0, 1) := by decide +kernel
theorem dX5_returns_35 : decode cX5_returns 35 = .ok (.iload_n 1, 1) := by decide +kernel
theorem dX5_returns_36 : decode cX5_returns 36 = .ok (.bipush 12, 2) := by decide +kernel
theorem dX5_returns_38 : decode cX5_returns 38 = .ok (.invokevirtual 119, 3) := by decide +kernel
theorem dX5_returns_41 : decode cX5_returns 41 = .ok (.iconst 1, 1) := by decide +kernel
theorem dX5_returns_42 : decode cX5_returns 42 = .ok (.istore_n 3, 1) := by decide +kernel
theorem dX5_returns_43 : decode cX5_returns 43 = .ok (.iload_n 3, 1) := by decide +kernel
theorem dX5_returns_44 : decode cX5_returns 44 = .ok (.iload_n 2, 1) := by decide +kernel
theorem dX5_returns_45 : decode cX5_returns 45 = .ok (.if_icmp .gt 38, 3) := by decide +kernel
theorem dX5_returns_48 : decode cX5_returns 48 = .ok (.aload_n 0, 1) := by decide +kernel
theorem dX5_returns_49 : decode cX5_returns 49 = .ok (.bipush 12, 2) := by decide +kernel
theorem dX5_returns_51 : decode cX5_returns 51 = .ok (.invokevirtual 123, 3) := by decide +kernel
theorem dX5_returns_54 : decode cX5_returns 54 = .ok (.ifCond .ne 5, 3) := by decide +kernel
theorem dX5_returns_57 : decode cX5_returns 57 = .ok (.iconst (-1), 1) := by decide +kernel
theorem dX5_returns_58 : decode cX5_returns 58 = .ok (.ireturn, 1) := by decide +kernel
theorem dX5_returns_59 : decode cX5_returns 59 = .ok (.aload_n 0, 1) := by decide +kernel
theorem dX5_returns_60 : decode cX5_returns 60 = .ok (.bipush 12, 2) := by decide +kernel
theorem dX5_returns_62 : decode cX5_returns 62 = .ok (.invokevirtual 126, 3) := by decide +kernel
theorem dX5_returns_65 : decode cX5_returns 65 = .ok (.aload_n 0, 1) := by decide +kernel
theorem dX5_returns_66 : decode cX5_returns 66 = .ok (.bipush 12, 2) := by decide +kernel
theorem dX5_returns_68 : decode cX5_returns 68 = .ok (.iload_n 1, 1) := by decide +kernel
theorem dX5_returns_69 : decode cX5_returns 69 = .ok (.invokevirtual 133, 3) := by decide +kernel
theorem dX5_returns_72 : decode cX5_returns 72 = .ok (.ifCond .eq 5, 3) := by decide +kernel
theorem dX5_returns_75 : decode cX5_returns 75 = .ok (.iload_n 3, 1) := by decide +kernel
theorem dX5_returns_76 : decode cX5_returns 76 = .ok (.ireturn, 1) := by decide +kernel
theorem dX5_returns_77 : decode cX5_returns 77 = .ok (.iinc 3 1, 3) := by decide +kernel
theorem dX5_returns_80 : decode cX5_returns 80 = .ok (.goto (-37), 3) := by decide +kernel
theorem dX5_returns_83 : decode cX5_returns 83 = .ok (.iconst (-1), 1) := by decide +kernel
theorem dX5_returns_84 : decode cX5_returns 84 = .ok (.ireturn, 1) := by decide +kernel
set_option maxRecDepth 20000 in
theorem ggX5_marked_X5_shareOf : GoodIn wsX5_marked wsX5_shareOf := goodIn_r _ [8, 9, 10, 11, 12, 13, 14, 15, 16, 17, 18, 19, 20, 21, 22, 23] (by decide +kernel) (by decide +kernel)
set_option maxRecDepth 20000 in
theorem gX5_marked_X5_shareOf : GoodIn wsX5_marked (wsV RX5 89 RX5 yX5_shareOf wsX5_shareOf) := goodIn_app (goodIn_of _ (by decide +kernel)) ggX5_marked_X5_shareOf
theorem dX5_marked_0 : decode cX5_marked 0 = .ok (.lconst 0, 1) := by decide +kernel
theorem dX5_marked_1 : decode cX5_marked 1 = .ok (.lstore_n 2, 1) := by decide +kernel
theorem dX5_marked_2 : decode cX5_marked 2 = .ok (.iconst 0, 1) := by decide +kernel
theorem dX5_marked_3 : decode cX5_marked 3 = .ok (.istore 4, 2) := by decide +kernel
theorem dX5_marked_5 : decode cX5_marked 5 = .ok (.iload 4, 2) := by decide +kernel
theorem dX5_marked_7 : decode cX5_marked 7 = .ok (.aload_n 0, 1) := by decide +kernel
theorem dX5_marked_8 : decode cX5_marked 8 = .ok (.getfield 7, 3) := by decide +kernel
theorem dX5_marked_11 : decode cX5_marked 11 = .ok (.aload_n 0, 1) := by decide +kernel
theorem dX5_marked_12 : decode cX5_marked 12 = .ok (.getfield 26, 3) := by decide +kernel
theorem dX5_marked_15 : decode cX5_marked 15 = .ok (.iload_n 1, 1) := by decide +kernel
theorem dX5_marked_16 : decode cX5_marked 16 = .ok (.iaload, 1) := by decide +kernel
theorem dX5_marked_17 : decode cX5_marked 17 = .ok (.iaload, 1) := by decide +kernel
theorem dX5_marked_18 : decode cX5_marked 18 = .ok (.if_icmp .ge 39, 3) := by decide +kernel
theorem dX5_marked_21 : decode cX5_marked 21 = .ok (.aload_n 0, 1) := by decide +kernel
theorem dX5_marked_22 : decode cX5_marked 22 = .ok (.getfield 19, 3) := by decide +kernel
theorem dX5_marked_25 : decode cX5_marked 25 = .ok (.bipush 12, 2) := by decide +kernel
theorem dX5_marked_27 : decode cX5_marked 27 = .ok (.aload_n 0, 1) := by decide +kernel
theorem dX5_marked_28 : decode cX5_marked 28 = .ok (.getfield 26, 3) := by decide +kernel
theorem dX5_marked_31 : decode cX5_marked 31 = .ok (.iload_n 1, 1) := by decide +kernel
theorem dX5_marked_32 : decode cX5_marked 32 = .ok (.iaload, 1) := by decide +kernel
theorem dX5_marked_33 : decode cX5_marked 33 = .ok (.imul, 1) := by decide +kernel
theorem dX5_marked_34 : decode cX5_marked 34 = .ok (.iload 4, 2) := by decide +kernel
theorem dX5_marked_36 : decode cX5_marked 36 = .ok (.iadd, 1) := by decide +kernel
theorem dX5_marked_37 : decode cX5_marked 37 = .ok (.baload, 1) := by decide +kernel
theorem dX5_marked_38 : decode cX5_marked 38 = .ok (.ifCond .eq 13, 3) := by decide +kernel
theorem dX5_marked_41 : decode cX5_marked 41 = .ok (.lload_n 2, 1) := by decide +kernel
theorem dX5_marked_42 : decode cX5_marked 42 = .ok (.aload_n 0, 1) := by decide +kernel
theorem dX5_marked_43 : decode cX5_marked 43 = .ok (.iload_n 1, 1) := by decide +kernel
theorem dX5_marked_44 : decode cX5_marked 44 = .ok (.iload 4, 2) := by decide +kernel
theorem dX5_marked_46 : decode cX5_marked 46 = .ok (.invokevirtual 89, 3) := by decide +kernel
theorem dX5_marked_49 : decode cX5_marked 49 = .ok (.ladd, 1) := by decide +kernel
theorem dX5_marked_50 : decode cX5_marked 50 = .ok (.lstore_n 2, 1) := by decide +kernel
theorem dX5_marked_51 : decode cX5_marked 51 = .ok (.iinc 4 1, 3) := by decide +kernel
theorem dX5_marked_54 : decode cX5_marked 54 = .ok (.goto (-49), 3) := by decide +kernel
theorem dX5_marked_57 : decode cX5_marked 57 = .ok (.lload_n 2, 1) := by decide +kernel
theorem dX5_marked_58 : decode cX5_marked 58 = .ok (.lreturn, 1) := by decide +kernel
set_option maxRecDepth 20000 in
theorem ggX5_best_X5_isWalk : GoodIn wsX5_best wsX5_isWalk := goodIn_r _ [5, 6, 7, 8, 9, 10, 4, 11, 66, 67, 68, 69, 70, 71, 72, 73, 74, 75, 76, 77, 78, 79] (by decide +kernel) (by decide +kernel)
set_option maxRecDepth 20000 in
theorem gX5_best_X5_isWalk : GoodIn wsX5_best (wsV RX5 82 RX5 yX5_isWalk wsX5_isWalk) := goodIn_app (goodIn_of _ (by decide +kernel)) ggX5_best_X5_isWalk
set_option maxRecDepth 20000 in
theorem ggX5_best_X5_isMany : GoodIn wsX5_best wsX5_isMany := goodIn_r _ [14] (by decide +kernel) (by decide +kernel)
set_option maxRecDepth 20000 in
theorem gX5_best_X5_isMany : GoodIn wsX5_best (va_wsS RX5 116 yX5_isMany wsX5_isMany) := goodIn_app (goodIn_of _ (by decide +kernel)) ggX5_best_X5_isMany
set_option maxRecDepth 20000 in
theorem ggX5_best_X5_right : GoodIn wsX5_best wsX5_right := goodIn_r _ [11, 6, 66, 67, 68, 69, 70, 71, 72, 73, 74, 75, 76, 77, 78, 79] (by decide +kernel) (by decide +kernel)
set_option maxRecDepth 20000 in
theorem gX5_best_X5_right : GoodIn wsX5_best (wsV RX5 52 RX5 yX5_right wsX5_right) := goodIn_app (goodIn_of _ (by decide +kernel)) ggX5_best_X5_right
set_option maxRecDepth 20000 in
theorem ggX5_best_X5_weight : GoodIn wsX5_best wsX5_weight := goodIn_r _ [18, 19, 20, 21, 4, 22, 23, 66, 67, 68, 69, 70, 71, 72, 73, 74, 75, 76, 77, 78, 79] (by decide +kernel) (by decide +kernel)
set_option maxRecDepth 20000 in
theorem gX5_best_X5_weight : GoodIn wsX5_best (wsV RX5 93 RX5 yX5_weight wsX5_weight) := goodIn_app (goodIn_of _ (by decide +kernel)) ggX5_best_X5_weight
set_option maxRecDepth 20000 in
theorem ggX5_best_X5_copies : GoodIn wsX5_best wsX5_copies := goodIn_r _ [27, 28, 29, 23, 66, 67, 68, 69, 70, 71, 72, 73, 74, 75, 76, 77, 78, 79] (by decide +kernel) (by decide +kernel)
set_option maxRecDepth 20000 in
theorem gX5_best_X5_copies : GoodIn wsX5_best (wsV RX5 119 RX5 yX5_copies wsX5_copies) := goodIn_app (goodIn_of _ (by decide +kernel)) ggX5_best_X5_copies
set_option maxRecDepth 20000 in
theorem ggX5_best_X5_marked : GoodIn wsX5_best wsX5_marked := goodIn_r _ [33, 34, 28, 35, 19, 20, 21, 4, 22, 23, 66, 67, 68, 69, 70, 71, 72, 73, 74, 75, 76, 77, 78, 79] (by decide +kernel) (by decide +kernel)
set_option maxRecDepth 20000 in
theorem gX5_best_X5_marked : GoodIn wsX5_best (wsV RX5 136 RX5 yX5_marked wsX5_marked) := goodIn_app (goodIn_of _ (by decide +kernel)) ggX5_best_X5_marked
set_option maxRecDepth 20000 in
theorem ggX5_best_X5_goesOn : GoodIn wsX5_best wsX5_goesOn := goodIn_r _ [39, 29, 40, 15, 16, 17, 4, 18, 19, 20, 21, 22, 23, 41, 42, 43, 44, 45, 28, 66, 67, 68, 69, 70, 71, 72, 73, 74, 75, 76, 77, 78, 79] (by decide +kernel) (by decide +kernel)
set_option maxRecDepth 20000 in
theorem gX5_best_X5_goesOn : GoodIn wsX5_best (wsV RX5 123 RX5 yX5_goesOn wsX5_goesOn) := goodIn_app (goodIn_of _ (by decide +kernel)) ggX5_best_X5_goesOn
set_option maxRecDepth 20000 in
theorem ggX5_best_X5_steps : GoodIn wsX5_best wsX5_steps := goodIn_r _ [49, 29, 50, 51, 52, 4, 53, 34, 28, 35, 23, 54, 55, 56, 57, 45, 58, 59, 60, 61, 62, 63, 64, 65, 66, 67, 68, 69, 70, 71, 72, 73, 74, 75, 76, 77, 78, 79] (by decide +kernel) (by decide +kernel)
set_option maxRecDepth 20000 in
theorem gX5_best_X5_steps : GoodIn wsX5_best (wsV RX5 126 RX5 yX5_steps wsX5_steps) := goodIn_app (goodIn_of _ (by decide +kernel)) ggX5_best_X5_steps
set_option maxRecDepth 20000 in
theorem ggX5_best_X5_scale : GoodIn wsX5_best wsX5_scale := goodIn_r _ [44, 45, 28, 66, 67, 68, 69, 70, 71, 72, 73, 74, 75, 76, 77, 78, 79] (by decide +kernel) (by decide +kernel)
set_option maxRecDepth 20000 in
theorem gX5_best_X5_scale : GoodIn wsX5_best (wsV RX5 99 RX5 yX5_scale wsX5_scale) := goodIn_app (goodIn_of _ (by decide +kernel)) ggX5_best_X5_scale
theorem dX5_best_0 : decode cX5_best 0 = .ok (.aload_n 0, 1) := by decide +kernel
theorem dX5_best_1 : decode cX5_best 1 = .ok (.iload_n 1, 1) := by decide +kernel
theorem dX5_best_2 : decode cX5_best 2 = .ok (.invokevirtual 82, 3) := by decide +kernel
theorem dX5_best_5 : decode cX5_best 5 = .ok (.ifCond .eq 15, 3) := by decide +kernel
theorem dX5_best_8 : decode cX5_best 8 = .ok (.aload_n 0, 1) := by decide +kernel
theorem dX5_best_9 : decode cX5_best 9 = .ok (.iload_n 2, 1) := by decide +kernel
theorem dX5_best_10 : decode cX5_best 10 = .ok (.invokestatic 116, 3) := by decide +kernel
theorem dX5_best_13 : decode cX5_best 13 = .ok (.iconst 2, 1) := by decide +kernel
theorem dX5_best_14 : decode cX5_best 14 = .ok (.invokevirtual 52, 3) := by decide +kernel
theorem dX5_best_17 : decode cX5_best 17 = .ok (.ifCond .ne 5, 3) := by decide +kernel
theorem dX5_best_20 : decode cX5_best 20 = .ok (.iconst 0, 1) := by decide +kernel
theorem dX5_best_21 : decode cX5_best 21 = .ok (.ireturn, 1) := by decide +kernel
theorem dX5_best_22 : decode cX5_best 22 = .ok (.aload_n 0, 1) := by decide +kernel
theorem dX5_best_23 : decode cX5_best 23 = .ok (.iload_n 1, 1) := by decide +kernel
theorem dX5_best_24 : decode cX5_best 24 = .ok (.invokevirtual 93, 3) := by decide +kernel
theorem dX5_best_27 : decode cX5_best 27 = .ok (.lconst 0, 1) := by decide +kernel
theorem dX5_best_28 : decode cX5_best 28 = .ok (.lcmp, 1) := by decide +kernel
theorem dX5_best_29 : decode cX5_best 29 = .ok (.ifCond .ne 5, 3) := by decide +kernel
theorem dX5_best_32 : decode cX5_best 32 = .ok (.iconst (-1), 1) := by decide +kernel
theorem dX5_best_33 : decode cX5_best 33 = .ok (.ireturn, 1) := by decide +kernel
theorem dX5_best_34 : decode cX5_best 34 = .ok (.aload_n 0, 1) := by decide +kernel
theorem dX5_best_35 : decode cX5_best 35 = .ok (.iload_n 1, 1) := by decide +kernel
theorem dX5_best_36 : decode cX5_best 36 = .ok (.bipush 12, 2) := by decide +kernel
theorem dX5_best_38 : decode cX5_best 38 = .ok (.invokevirtual 119, 3) := by decide +kernel
theorem dX5_best_41 : decode cX5_best 41 = .ok (.iconst 0, 1) := by decide +kernel
theorem dX5_best_42 : decode cX5_best 42 = .ok (.istore_n 3, 1) := by decide +kernel
theorem dX5_best_43 : decode cX5_best 43 = .ok (.aload_n 0, 1) := by decide +kernel
theorem dX5_best_44 : decode cX5_best 44 = .ok (.bipush 12, 2) := by decide +kernel
theorem dX5_best_46 : decode cX5_best 46 = .ok (.invokevirtual 136, 3) := by decide +kernel
theorem dX5_best_49 : decode cX5_best 49 = .ok (.lstore 4, 2) := by decide +kernel
theorem dX5_best_51 : decode cX5_best 51 = .ok (.iconst 1, 1) := by decide +kernel
theorem dX5_best_52 : decode cX5_best 52 = .ok (.istore 6, 2) := by decide +kernel
theorem dX5_best_54 : decode cX5_best 54 = .ok (.iload 6, 2) := by decide +kernel
theorem dX5_best_56 : decode cX5_best 56 = .ok (.iload_n 2, 1) := by decide +kernel
theorem dX5_best_57 : decode cX5_best 57 = .ok (.if_icmp .gt 61, 3) := by decide +kernel
theorem dX5_best_60 : decode cX5_best 60 = .ok (.aload_n 0, 1) := by decide +kernel
theorem dX5_best_61 : decode cX5_best 61 = .ok (.bipush 12, 2) := by decide +kernel
theorem dX5_best_63 : decode cX5_best 63 = .ok (.invokevirtual 123, 3) := by decide +kernel
theorem dX5_best_66 : decode cX5_best 66 = .ok (.ifCond .eq 52, 3) := by decide +kernel
theorem dX5_best_69 : decode cX5_best 69 = .ok (.aload_n 0, 1) := by decide +kernel
theorem dX5_best_70 : decode cX5_best 70 = .ok (.bipush 12, 2) := by decide +kernel
theorem dX5_best_72 : decode cX5_best 72 = .ok (.invokevirtual 126, 3) := by decide +kernel
theorem dX5_best_75 : decode cX5_best 75 = .ok (.lload 4, 2) := by decide +kernel
theorem dX5_best_77 : decode cX5_best 77 = .ok (.aload_n 0, 1) := by decide +kernel
theorem dX5_best_78 : decode cX5_best 78 = .ok (.iload_n 1, 1) := by decide +kernel
theorem dX5_best_79 : decode cX5_best 79 = .ok (.invokevirtual 99, 3) := by decide +kernel
theorem dX5_best_82 : decode cX5_best 82 = .ok (.i2l, 1) := by decide +kernel
theorem dX5_best_83 : decode cX5_best 83 = .ok (.lmul, 1) := by decide +kernel
theorem dX5_best_84 : decode cX5_best 84 = .ok (.lstore 4, 2) := by decide +kernel
theorem dX5_best_86 : decode cX5_best 86 = .ok (.aload_n 0, 1) := by decide +kernel
theorem dX5_best_87 : decode cX5_best 87 = .ok (.bipush 12, 2) := by decide +kernel
theorem dX5_best_89 : decode cX5_best 89 = .ok (.invokevirtual 136, 3) := by decide +kernel
theorem dX5_best_92 : decode cX5_best 92 = .ok (.lload 4, 2) := by decide +kernel
theorem dX5_best_94 : decode cX5_best 94 = .ok (.lcmp, 1) := by decide +kernel
theorem dX5_best_95 : decode cX5_best 95 = .ok (.ifCond .gt 6, 3) := by decide +kernel
theorem dX5_best_98 : decode cX5_best 98 = .ok (.goto 14, 3) := by decide +kernel
theorem dX5_best_101 : decode cX5_best 101 = .ok (.aload_n 0, 1) := by decide +kernel
theorem dX5_best_102 : decode cX5_best 102 = .ok (.bipush 12, 2) := by decide +kernel
theorem dX5_best_104 : decode cX5_best 104 = .ok (.invokevirtual 136, 3) := by decide +kernel
theorem dX5_best_107 : decode cX5_best 107 = .ok (.lstore 4, 2) := by decide +kernel
theorem dX5_best_109 : decode cX5_best 109 = .ok (.iload 6, 2) := by decide +kernel
theorem dX5_best_111 : decode cX5_best 111 = .ok (.istore_n 3, 1) := by decide +kernel
theorem dX5_best_112 : decode cX5_best 112 = .ok (.iinc 6 1, 3) := by decide +kernel
theorem dX5_best_115 : decode cX5_best 115 = .ok (.goto (-61), 3) := by decide +kernel
theorem dX5_best_118 : decode cX5_best 118 = .ok (.iload_n 3, 1) := by decide +kernel
theorem dX5_best_119 : decode cX5_best 119 = .ok (.ireturn, 1) := by decide +kernel
set_option maxRecDepth 20000 in
theorem ggX5_mean_X5_isWalk : GoodIn wsX5_mean wsX5_isWalk := goodIn_r _ [7, 8, 9, 10, 11, 12, 6, 13, 67, 68, 69, 70, 71, 72, 73, 74, 75, 76, 77, 78, 79, 80] (by decide +kernel) (by decide +kernel)
set_option maxRecDepth 20000 in
theorem gX5_mean_X5_isWalk : GoodIn wsX5_mean (wsV RX5 82 RX5 yX5_isWalk wsX5_isWalk) := goodIn_app (goodIn_of _ (by decide +kernel)) ggX5_mean_X5_isWalk
set_option maxRecDepth 20000 in
theorem ggX5_mean_X5_isIn : GoodIn wsX5_mean wsX5_isIn := goodIn_r _ [17, 18, 19, 10, 11, 12, 6, 13, 8, 67, 68, 69, 70, 71, 72, 73, 74, 75, 76, 77, 78, 79, 80] (by decide +kernel) (by decide +kernel)
set_option maxRecDepth 20000 in
theorem gX5_mean_X5_isIn : GoodIn wsX5_mean (wsV RX5 129 RX5 yX5_isIn wsX5_isIn) := goodIn_app (goodIn_of _ (by decide +kernel)) ggX5_mean_X5_isIn
set_option maxRecDepth 20000 in
theorem ggX5_mean_X5_isMany : GoodIn wsX5_mean wsX5_isMany := goodIn_r _ [22] (by decide +kernel) (by decide +kernel)
set_option maxRecDepth 20000 in
theorem gX5_mean_X5_isMany : GoodIn wsX5_mean (va_wsS RX5 116 yX5_isMany wsX5_isMany) := goodIn_app (goodIn_of _ (by decide +kernel)) ggX5_mean_X5_isMany
set_option maxRecDepth 20000 in
theorem ggX5_mean_X5_right : GoodIn wsX5_mean wsX5_right := goodIn_r _ [13, 8, 67, 68, 69, 70, 71, 72, 73, 74, 75, 76, 77, 78, 79, 80] (by decide +kernel) (by decide +kernel)
set_option maxRecDepth 20000 in
theorem gX5_mean_X5_right : GoodIn wsX5_mean (wsV RX5 52 RX5 yX5_right wsX5_right) := goodIn_app (goodIn_of _ (by decide +kernel)) ggX5_mean_X5_right
set_option maxRecDepth 20000 in
theorem ggX5_mean_X5_copies : GoodIn wsX5_mean wsX5_copies := goodIn_r _ [26, 19, 27, 28, 67, 68, 69, 70, 71, 72, 73, 74, 75, 76, 77, 78, 79, 80] (by decide +kernel) (by decide +kernel)
set_option maxRecDepth 20000 in
theorem gX5_mean_X5_copies : GoodIn wsX5_mean (wsV RX5 119 RX5 yX5_copies wsX5_copies) := goodIn_app (goodIn_of _ (by decide +kernel)) ggX5_mean_X5_copies
set_option maxRecDepth 20000 in
theorem ggX5_mean_X5_shareOf : GoodIn wsX5_mean wsX5_shareOf := goodIn_r _ [32, 28, 67, 68, 69, 70, 71, 72, 73, 74, 75, 76, 77, 78, 79, 80] (by decide +kernel) (by decide +kernel)
set_option maxRecDepth 20000 in
theorem gX5_mean_X5_shareOf : GoodIn wsX5_mean (wsV RX5 89 RX5 yX5_shareOf wsX5_shareOf) := goodIn_app (goodIn_of _ (by decide +kernel)) ggX5_mean_X5_shareOf
set_option maxRecDepth 20000 in
theorem ggX5_mean_X5_goesOn : GoodIn wsX5_mean wsX5_goesOn := goodIn_r _ [36, 27, 2, 37, 38, 39, 6, 40, 29, 30, 31, 32, 28, 41, 42, 43, 44, 45, 19, 67, 68, 69, 70, 71, 72, 73, 74, 75, 76, 77, 78, 79, 80] (by decide +kernel) (by decide +kernel)
set_option maxRecDepth 20000 in
theorem gX5_mean_X5_goesOn : GoodIn wsX5_mean (wsV RX5 123 RX5 yX5_goesOn wsX5_goesOn) := goodIn_app (goodIn_of _ (by decide +kernel)) ggX5_mean_X5_goesOn
set_option maxRecDepth 20000 in
theorem ggX5_mean_X5_steps : GoodIn wsX5_mean wsX5_steps := goodIn_r _ [49, 27, 50, 51, 52, 6, 53, 18, 19, 54, 28, 55, 56, 57, 58, 45, 59, 60, 61, 62, 63, 64, 65, 66, 67, 68, 69, 70, 71, 72, 73, 74, 75, 76, 77, 78, 79, 80] (by decide +kernel) (by decide +kernel)
set_option maxRecDepth 20000 in
theorem gX5_mean_X5_steps : GoodIn wsX5_mean (wsV RX5 126 RX5 yX5_steps wsX5_steps) := goodIn_app (goodIn_of _ (by decide +kernel)) ggX5_mean_X5_steps
set_option maxRecDepth 20000 in
theorem ggX5_mean_X5_scale : GoodIn wsX5_mean wsX5_scale := goodIn_r _ [44, 45, 19, 67, 68, 69, 70, 71, 72, 73, 74, 75, 76, 77, 78, 79, 80] (by decide +kernel) (by decide +kernel)
set_option maxRecDepth 20000 in
theorem gX5_mean_X5_scale : GoodIn wsX5_mean (wsV RX5 99 RX5 yX5_scale wsX5_scale) := goodIn_app (goodIn_of _ (by decide +kernel)) ggX5_mean_X5_scale
theorem dX5_mean_0 : decode cX5_mean 0 = .ok (.aload_n 0, 1) := by decide +kernel
theorem dX5_mean_1 : decode cX5_mean 1 = .ok (.iload_n 1, 1) := by decide +kernel
theorem dX5_mean_2 : decode cX5_mean 2 = .ok (.invokevirtual 82, 3) := by decide +kernel
theorem dX5_mean_5 : decode cX5_mean 5 = .ok (.ifCond .eq 24, 3) := by decide +kernel
theorem dX5_mean_8 : decode cX5_mean 8 = .ok (.aload_n 0, 1) := by decide +kernel
theorem dX5_mean_9 : decode cX5_mean 9 = .ok (.iload_n 1, 1) := by decide +kernel
theorem dX5_mean_10 : decode cX5_mean 10 = .ok (.iload_n 2, 1) := by decide +kernel
theorem dX5_mean_11 : decode cX5_mean 11 = .ok (.invokevirtual 129, 3) := by decide +kernel
theorem dX5_mean_14 : decode cX5_mean 14 = .ok (.ifCond .eq 15, 3) := by decide +kernel
theorem dX5_mean_17 : decode cX5_mean 17 = .ok (.aload_n 0, 1) := by decide +kernel
theorem dX5_mean_18 : decode cX5_mean 18 = .ok (.iload_n 3, 1) := by decide +kernel
theorem dX5_mean_19 : decode cX5_mean 19 = .ok (.invokestatic 116, 3) := by decide +kernel
theorem dX5_mean_22 : decode cX5_mean 22 = .ok (.iconst 2, 1) := by decide +kernel
theorem dX5_mean_23 : decode cX5_mean 23 = .ok (.invokevirtual 52, 3) := by decide +kernel
theorem dX5_mean_26 : decode cX5_mean 26 = .ok (.ifCond .ne 5, 3) := by decide +kernel
theorem dX5_mean_29 : decode cX5_mean 29 = .ok (.lconst 0, 1) := by decide +kernel
theorem dX5_mean_30 : decode cX5_mean 30 = .ok (.lreturn, 1) := by decide +kernel
theorem dX5_mean_31 : decode cX5_mean 31 = .ok (.aload_n 0, 1) := by decide +kernel
theorem dX5_mean_32 : decode cX5_mean 32 = .ok (.iload_n 1, 1) := by decide +kernel
theorem dX5_mean_33 : decode cX5_mean 33 = .ok (.bipush 12, 2) := by decide +kernel
theorem dX5_mean_35 : decode cX5_mean 35 = .ok (.invokevirtual 119, 3) := by decide +kernel
theorem dX5_mean_38 : decode cX5_mean 38 = .ok (.aload_n 0, 1) := by decide +kernel
theorem dX5_mean_39 : decode cX5_mean 39 = .ok (.bipush 12, 2) := by decide +kernel
theorem dX5_mean_41 : decode cX5_mean 41 = .ok (.iload_n 2, 1) := by decide +kernel
theorem dX5_mean_42 : decode cX5_mean 42 = .ok (.invokevirtual 89, 3) := by decide +kernel
theorem dX5_mean_45 : decode cX5_mean 45 = .ok (.lstore 4, 2) := by decide +kernel
theorem dX5_mean_47 : decode cX5_mean 47 = .ok (.iconst 0, 1) := by decide +kernel
theorem dX5_mean_48 : decode cX5_mean 48 = .ok (.istore 6, 2) := by decide +kernel
theorem dX5_mean_50 : decode cX5_mean 50 = .ok (.iconst 1, 1) := by decide +kernel
theorem dX5_mean_51 : decode cX5_mean 51 = .ok (.istore 7, 2) := by decide +kernel
theorem dX5_mean_53 : decode cX5_mean 53 = .ok (.iload 7, 2) := by decide +kernel
theorem dX5_mean_55 : decode cX5_mean 55 = .ok (.iload_n 3, 1) := by decide +kernel
theorem dX5_mean_56 : decode cX5_mean 56 = .ok (.if_icmp .gt 109, 3) := by decide +kernel
theorem dX5_mean_59 : decode cX5_mean 59 = .ok (.aload_n 0, 1) := by decide +kernel
theorem dX5_mean_60 : decode cX5_mean 60 = .ok (.bipush 12, 2) := by decide +kernel
theorem dX5_mean_62 : decode cX5_mean 62 = .ok (.invokevirtual 123, 3) := by decide +kernel
theorem dX5_mean_65 : decode cX5_mean 65 = .ok (.ifCond .ne 7, 3) := by decide +kernel
theorem dX5_mean_68 : decode cX5_mean 68 = .ok (.ldc2_w 139, 3) := by decide +kernel
theorem dX5_mean_71 : decode cX5_mean 71 = .ok (.lreturn, 1) := by decide +kernel
theorem dX5_mean_72 : decode cX5_mean 72 = .ok (.aload_n 0, 1) := by decide +kernel
theorem dX5_mean_73 : decode cX5_mean 73 = .ok (.bipush 12, 2) := by decide +kernel
theorem dX5_mean_75 : decode cX5_mean 75 = .ok (.invokevirtual 126, 3) := by decide +kernel
theorem dX5_mean_78 : decode cX5_mean 78 = .ok (.iload 6, 2) := by decide +kernel
theorem dX5_mean_80 : decode cX5_mean 80 = .ok (.ifCond .ne 19, 3) := by decide +kernel
theorem dX5_mean_83 : decode cX5_mean 83 = .ok (.lload 4, 2) := by decide +kernel
theorem dX5_mean_85 : decode cX5_mean 85 = .ok (.ldc2_w 97, 3) := by decide +kernel
theorem dX5_mean_88 : decode cX5_mean 88 = .ok (.aload_n 0, 1) := by decide +kernel
theorem dX5_mean_89 : decode cX5_mean 89 = .ok (.iload_n 1, 1) := by decide +kernel
theorem dX5_mean_90 : decode cX5_mean 90 = .ok (.invokevirtual 99, 3) := by decide +kernel
theorem dX5_mean_93 : decode cX5_mean 93 = .ok (.i2l, 1) := by decide +kernel
theorem dX5_mean_94 : decode cX5_mean 94 = .ok (.ldiv, 1) := by decide +kernel
theorem dX5_mean_95 : decode cX5_mean 95 = .ok (.lcmp, 1) := by decide +kernel
theorem dX5_mean_96 : decode cX5_mean 96 = .ok (.ifCond .le 7, 3) := by decide +kernel
theorem dX5_mean_99 : decode cX5_mean 99 = .ok (.iconst 1, 1) := by decide +kernel
theorem dX5_mean_100 : decode cX5_mean 100 = .ok (.goto 4, 3) := by decide +kernel
theorem dX5_mean_103 : decode cX5_mean 103 = .ok (.iconst 0, 1) := by decide +kernel
theorem dX5_mean_104 : decode cX5_mean 104 = .ok (.istore 6, 2) := by decide +kernel
theorem dX5_mean_106 : decode cX5_mean 106 = .ok (.iload 6, 2) := by decide +kernel
theorem dX5_mean_108 : decode cX5_mean 108 = .ok (.ifCond .eq 6, 3) := by decide +kernel
theorem dX5_mean_111 : decode cX5_mean 111 = .ok (.goto 48, 3) := by decide +kernel
theorem dX5_mean_114 : decode cX5_mean 114 = .ok (.lload 4, 2) := by decide +kernel
theorem dX5_mean_116 : decode cX5_mean 116 = .ok (.aload_n 0, 1) := by decide +kernel
theorem dX5_mean_117 : decode cX5_mean 117 = .ok (.iload_n 1, 1) := by decide +kernel
theorem dX5_mean_118 : decode cX5_mean 118 = .ok (.invokevirtual 99, 3) := by decide +kernel
theorem dX5_mean_121 : decode cX5_mean 121 = .ok (.i2l, 1) := by decide +kernel
theorem dX5_mean_122 : decode cX5_mean 122 = .ok (.lmul, 1) := by decide +kernel
theorem dX5_mean_123 : decode cX5_mean 123 = .ok (.lstore 4, 2) := by decide +kernel
theorem dX5_mean_125 : decode cX5_mean 125 = .ok (.aload_n 0, 1) := by decide +kernel
theorem dX5_mean_126 : decode cX5_mean 126 = .ok (.bipush 12, 2) := by decide +kernel
theorem dX5_mean_128 : decode cX5_mean 128 = .ok (.iload_n 2, 1) := by decide +kernel
theorem dX5_mean_129 : decode cX5_mean 129 = .ok (.invokevirtual 89, 3) := by decide +kernel
theorem dX5_mean_132 : decode cX5_mean 132 = .ok (.lstore 8, 2) := by decide +kernel
theorem dX5_mean_134 : decode cX5_mean 134 = .ok (.lload 8, 2) := by decide +kernel
theorem dX5_mean_136 : decode cX5_mean 136 = .ok (.ldc2_w 97, 3) := by decide +kernel
theorem dX5_mean_139 : decode cX5_mean 139 = .ok (.lload 4, 2) := by decide +kernel
theorem dX5_mean_141 : decode cX5_mean 141 = .ok (.lsub, 1) := by decide +kernel
theorem dX5_mean_142 : decode cX5_mean 142 = .ok (.lcmp, 1) := by decide +kernel
theorem dX5_mean_143 : decode cX5_mean 143 = .ok (.ifCond .le 9, 3) := by decide +kernel
theorem dX5_mean_146 : decode cX5_mean 146 = .ok (.iconst 1, 1) := by decide +kernel
theorem dX5_mean_147 : decode cX5_mean 147 = .ok (.istore 6, 2) := by decide +kernel
theorem dX5_mean_149 : decode cX5_mean 149 = .ok (.goto 10, 3) := by decide +kernel
theorem dX5_mean_152 : decode cX5_mean 152 = .ok (.lload 4, 2) := by decide +kernel
theorem dX5_mean_154 : decode cX5_mean 154 = .ok (.lload 8, 2) := by decide +kernel
theorem dX5_mean_156 : decode cX5_mean 156 = .ok (.ladd, 1) := by decide +kernel
theorem dX5_mean_157 : decode cX5_mean 157 = .ok (.lstore 4, 2) := by decide +kernel
theorem dX5_mean_159 : decode cX5_mean 159 = .ok (.iinc 7 1, 3) := by decide +kernel
theorem dX5_mean_162 : decode cX5_mean 162 = .ok (.goto (-109), 3) := by decide +kernel
theorem dX5_mean_165 : decode cX5_mean 165 = .ok (.iload 6, 2) := by decide +kernel
theorem dX5_mean_167 : decode cX5_mean 167 = .ok (.ifCond .eq 9, 3) := by decide +kernel
theorem dX5_mean_170 : decode cX5_mean 170 = .ok (.ldc2_w 139, 3) := by decide +kernel
theorem dX5_mean_173 : decode cX5_mean 173 = .ok (.goto 5, 3) := by decide +kernel
theorem dX5_mean_176 : decode cX5_mean 176 = .ok (.lload 4, 2) := by decide +kernel
theorem dX5_mean_178 : decode cX5_mean 178 = .ok (.lreturn, 1) := by decide +kernel
set_option maxRecDepth 20000 in
theorem ggX5_copy_X5_isWalk : GoodIn wsX5_copy wsX5_isWalk := goodIn_r _ [7, 8, 1, 9, 10, 11, 6, 12, 19, 20, 21, 22, 23, 24, 25, 26, 27, 28, 29, 30, 31, 32] (by decide +kernel) (by decide +kernel)
set_option maxRecDepth 20000 in
theorem gX5_copy_X5_isWalk : GoodIn wsX5_copy (wsV RX5 82 RX5 yX5_isWalk wsX5_isWalk) := goodIn_app (goodIn_of _ (by decide +kernel)) ggX5_copy_X5_isWalk
set_option maxRecDepth 20000 in
theorem ggX5_copy_X5_right : GoodIn wsX5_copy wsX5_right := goodIn_r _ [12, 8, 19, 20, 21, 22, 23, 24, 25, 26, 27, 28, 29, 30, 31, 32] (by decide +kernel) (by decide +kernel)
set_option maxRecDepth 20000 in
theorem gX5_copy_X5_right : GoodIn wsX5_copy (wsV RX5 52 RX5 yX5_right wsX5_right) := goodIn_app (goodIn_of _ (by decide +kernel)) ggX5_copy_X5_right
set_option maxRecDepth 20000 in
theorem ggX5_copy_X5_copies : GoodIn wsX5_copy wsX5_copies := goodIn_r _ [16, 2, 17, 18, 19, 20, 21, 22, 23, 24, 25, 26, 27, 28, 29, 30, 31, 32] (by decide +kernel) (by decide +kernel)
set_option maxRecDepth 20000 in
theorem gX5_copy_X5_copies : GoodIn wsX5_copy (wsV RX5 119 RX5 yX5_copies wsX5_copies) := goodIn_app (goodIn_of _ (by decide +kernel)) ggX5_copy_X5_copies
theorem dX5_copy_0 : decode cX5_copy 0 = .ok (.aload_n 0, 1) := by decide +kernel
theorem dX5_copy_1 : decode cX5_copy 1 = .ok (.iload_n 1, 1) := by decide +kernel
theorem dX5_copy_2 : decode cX5_copy 2 = .ok (.invokevirtual 82, 3) := by decide +kernel
theorem dX5_copy_5 : decode cX5_copy 5 = .ok (.ifCond .eq 56, 3) := by decide +kernel
theorem dX5_copy_8 : decode cX5_copy 8 = .ok (.aload_n 0, 1) := by decide +kernel
theorem dX5_copy_9 : decode cX5_copy 9 = .ok (.iload_n 2, 1) := by decide +kernel
theorem dX5_copy_10 : decode cX5_copy 10 = .ok (.ifCond .lt 15, 3) := by decide +kernel
theorem dX5_copy_13 : decode cX5_copy 13 = .ok (.iload_n 2, 1) := by decide +kernel
theorem dX5_copy_14 : decode cX5_copy 14 = .ok (.aload_n 0, 1) := by decide +kernel
theorem dX5_copy_15 : decode cX5_copy 15 = .ok (.getfield 75, 3) := by decide +kernel
theorem dX5_copy_18 : decode cX5_copy 18 = .ok (.if_icmp .ge 7, 3) := by decide +kernel
theorem dX5_copy_21 : decode cX5_copy 21 = .ok (.iconst 1, 1) := by decide +kernel
theorem dX5_copy_22 : decode cX5_copy 22 = .ok (.goto 4, 3) := by decide +kernel
theorem dX5_copy_25 : decode cX5_copy 25 = .ok (.iconst 0, 1) := by decide +kernel
theorem dX5_copy_26 : decode cX5_copy 26 = .ok (.iconst 1, 1) := by decide +kernel
theorem dX5_copy_27 : decode cX5_copy 27 = .ok (.invokevirtual 52, 3) := by decide +kernel
theorem dX5_copy_30 : decode cX5_copy 30 = .ok (.ifCond .eq 31, 3) := by decide +kernel
theorem dX5_copy_33 : decode cX5_copy 33 = .ok (.aload_n 0, 1) := by decide +kernel
theorem dX5_copy_34 : decode cX5_copy 34 = .ok (.aload_n 0, 1) := by decide +kernel
theorem dX5_copy_35 : decode cX5_copy 35 = .ok (.getfield 26, 3) := by decide +kernel
theorem dX5_copy_38 : decode cX5_copy 38 = .ok (.iload_n 1, 1) := by decide +kernel
theorem dX5_copy_39 : decode cX5_copy 39 = .ok (.iaload, 1) := by decide +kernel
theorem dX5_copy_40 : decode cX5_copy 40 = .ok (.aload_n 0, 1) := by decide +kernel
theorem dX5_copy_41 : decode cX5_copy 41 = .ok (.getfield 26, 3) := by decide +kernel
theorem dX5_copy_44 : decode cX5_copy 44 = .ok (.iload_n 2, 1) := by decide +kernel
theorem dX5_copy_45 : decode cX5_copy 45 = .ok (.iaload, 1) := by decide +kernel
theorem dX5_copy_46 : decode cX5_copy 46 = .ok (.if_icmp .ne 7, 3) := by decide +kernel
theorem dX5_copy_49 : decode cX5_copy 49 = .ok (.iconst 1, 1) := by decide +kernel
theorem dX5_copy_50 : decode cX5_copy 50 = .ok (.goto 4, 3) := by decide +kernel
theorem dX5_copy_53 : decode cX5_copy 53 = .ok (.iconst 0, 1) := by decide +kernel
theorem dX5_copy_54 : decode cX5_copy 54 = .ok (.iconst 2, 1) := by decide +kernel
theorem dX5_copy_55 : decode cX5_copy 55 = .ok (.invokevirtual 52, 3) := by decide +kernel
theorem dX5_copy_58 : decode cX5_copy 58 = .ok (.ifCond .ne 4, 3) := by decide +kernel
theorem dX5_copy_61 : decode cX5_copy 61 = .ok (.return_, 1) := by decide +kernel
theorem dX5_copy_62 : decode cX5_copy 62 = .ok (.aload_n 0, 1) := by decide +kernel
theorem dX5_copy_63 : decode cX5_copy 63 = .ok (.iload_n 2, 1) := by decide +kernel
theorem dX5_copy_64 : decode cX5_copy 64 = .ok (.iload_n 1, 1) := by decide +kernel
theorem dX5_copy_65 : decode cX5_copy 65 = .ok (.invokevirtual 119, 3) := by decide +kernel
theorem dX5_copy_68 : decode cX5_copy 68 = .ok (.return_, 1) := by decide +kernel
set_option maxRecDepth 20000 in
theorem ggX5_count_X5_right : GoodIn wsX5_count wsX5_right := goodIn_r _ [8, 1, 9, 10, 11, 12, 13, 14, 15, 16, 17, 18, 19, 20, 21, 22] (by decide +kernel) (by decide +kernel)
set_option maxRecDepth 20000 in
theorem gX5_count_X5_right : GoodIn wsX5_count (wsV RX5 52 RX5 yX5_right wsX5_right) := goodIn_app (goodIn_of _ (by decide +kernel)) ggX5_count_X5_right
theorem dX5_count_0 : decode cX5_count 0 = .ok (.aload_n 0, 1) := by decide +kernel
theorem dX5_count_1 : decode cX5_count 1 = .ok (.iconst 0, 1) := by decide +kernel
theorem dX5_count_2 : decode cX5_count 2 = .ok (.putfield 45, 3) := by decide +kernel
theorem dX5_count_5 : decode cX5_count 5 = .ok (.aload_n 0, 1) := by decide +kernel
theorem dX5_count_6 : decode cX5_count 6 = .ok (.iload_n 1, 1) := by decide +kernel
theorem dX5_count_7 : decode cX5_count 7 = .ok (.ifCond .eq 8, 3) := by decide +kernel
theorem dX5_count_10 : decode cX5_count 10 = .ok (.iload_n 1, 1) := by decide +kernel
theorem dX5_count_11 : decode cX5_count 11 = .ok (.iconst 1, 1) := by decide +kernel
theorem dX5_count_12 : decode cX5_count 12 = .ok (.if_icmp .ne 7, 3) := by decide +kernel
theorem dX5_count_15 : decode cX5_count 15 = .ok (.iconst 1, 1) := by decide +kernel
theorem dX5_count_16 : decode cX5_count 16 = .ok (.goto 4, 3) := by decide +kernel
theorem dX5_count_19 : decode cX5_count 19 = .ok (.iconst 0, 1) := by decide +kernel
theorem dX5_count_20 : decode cX5_count 20 = .ok (.iconst 1, 1) := by decide +kernel
theorem dX5_count_21 : decode cX5_count 21 = .ok (.invokevirtual 52, 3) := by decide +kernel
theorem dX5_count_24 : decode cX5_count 24 = .ok (.ifCond .ne 5, 3) := by decide +kernel
theorem dX5_count_27 : decode cX5_count 27 = .ok (.iconst 0, 1) := by decide +kernel
theorem dX5_count_28 : decode cX5_count 28 = .ok (.ireturn, 1) := by decide +kernel
theorem dX5_count_29 : decode cX5_count 29 = .ok (.iload_n 1, 1) := by decide +kernel
theorem dX5_count_30 : decode cX5_count 30 = .ok (.ifCond .ne 10, 3) := by decide +kernel
theorem dX5_count_33 : decode cX5_count 33 = .ok (.aload_n 0, 1) := by decide +kernel
theorem dX5_count_34 : decode cX5_count 34 = .ok (.getfield 49, 3) := by decide +kernel
theorem dX5_count_37 : decode cX5_count 37 = .ok (.goto 7, 3) := by decide +kernel
theorem dX5_count_40 : decode cX5_count 40 = .ok (.aload_n 0, 1) := by decide +kernel
theorem dX5_count_41 : decode cX5_count 41 = .ok (.getfield 75, 3) := by decide +kernel
theorem dX5_count_44 : decode cX5_count 44 = .ok (.ireturn, 1) := by decide +kernel
theorem dJ9_min_7cf53_0 : decode cJ9_min_7cf53 0 = .ok (.iload_n 0, 1) := by decide +kernel
theorem dJ9_min_7cf53_1 : decode cJ9_min_7cf53 1 = .ok (.iload_n 1, 1) := by decide +kernel
theorem dJ9_min_7cf53_2 : decode cJ9_min_7cf53 2 = .ok (.if_icmp .gt 7, 3) := by decide +kernel
theorem dJ9_min_7cf53_5 : decode cJ9_min_7cf53 5 = .ok (.iload_n 0, 1) := by decide +kernel
theorem dJ9_min_7cf53_6 : decode cJ9_min_7cf53 6 = .ok (.goto 4, 3) := by decide +kernel
theorem dJ9_min_7cf53_9 : decode cJ9_min_7cf53 9 = .ok (.iload_n 1, 1) := by decide +kernel
theorem dJ9_min_7cf53_10 : decode cJ9_min_7cf53 10 = .ok (.ireturn, 1) := by decide +kernel
