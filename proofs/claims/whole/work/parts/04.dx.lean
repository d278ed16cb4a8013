theorem dX0_init_0 : decode cX0_init 0 = .ok (.aload_n 0, 1) := by decide +kernel
theorem dX0_init_1 : decode cX0_init 1 = .ok (.invokespecial 5, 3) := by decide +kernel
theorem dX0_init_4 : decode cX0_init 4 = .ok (.aload_n 0, 1) := by decide +kernel
theorem dX0_init_5 : decode cX0_init 5 = .ok (.bipush 12, 2) := by decide +kernel
theorem dX0_init_7 : decode cX0_init 7 = .ok (.newarray .int, 2) := by decide +kernel
theorem dX0_init_9 : decode cX0_init 9 = .ok (.putfield 11, 3) := by decide +kernel
theorem dX0_init_12 : decode cX0_init 12 = .ok (.aload_n 0, 1) := by decide +kernel
theorem dX0_init_13 : decode cX0_init 13 = .ok (.bipush 12, 2) := by decide +kernel
theorem dX0_init_15 : decode cX0_init 15 = .ok (.newarray .long, 2) := by decide +kernel
theorem dX0_init_17 : decode cX0_init 17 = .ok (.putfield 15, 3) := by decide +kernel
theorem dX0_init_20 : decode cX0_init 20 = .ok (.aload_n 0, 1) := by decide +kernel
theorem dX0_init_21 : decode cX0_init 21 = .ok (.iconst 0, 1) := by decide +kernel
theorem dX0_init_22 : decode cX0_init 22 = .ok (.putfield 19, 3) := by decide +kernel
theorem dX0_init_25 : decode cX0_init 25 = .ok (.return_, 1) := by decide +kernel
set_option maxRecDepth 20000 in
theorem ggX0_partAll_X0_numberByKeys : GoodIn wsX0_partAll wsX0_numberByKeys := goodIn_r _ [9, 4, 2, 10, 24, 25, 26] (by decide +kernel) (by decide +kernel)
set_option maxRecDepth 20000 in
theorem gX0_partAll_X0_numberByKeys : GoodIn wsX0_partAll (wsV RX0 32 RX0 yX0_numberByKeys wsX0_numberByKeys) := goodIn_app (goodIn_of _ (by decide +kernel)) ggX0_partAll_X0_numberByKeys
set_option maxRecDepth 20000 in
theorem ggX0_partAll_X0_keyByDoors : GoodIn wsX0_partAll wsX0_keyByDoors := goodIn_r _ [14, 1, 10, 15, 16, 2, 17, 18, 19, 20, 21, 22, 23, 24, 25, 26] (by decide +kernel) (by decide +kernel)
set_option maxRecDepth 20000 in
theorem gX0_partAll_X0_keyByDoors : GoodIn wsX0_partAll (wsV RX0 36 RX0 yX0_keyByDoors wsX0_keyByDoors) := goodIn_app (goodIn_of _ (by decide +kernel)) ggX0_partAll_X0_keyByDoors
theorem dX0_partAll_0 : decode cX0_partAll 0 = .ok (.iconst 0, 1) := by decide +kernel
theorem dX0_partAll_1 : decode cX0_partAll 1 = .ok (.istore_n 2, 1) := by decide +kernel
theorem dX0_partAll_2 : decode cX0_partAll 2 = .ok (.iload_n 2, 1) := by decide +kernel
theorem dX0_partAll_3 : decode cX0_partAll 3 = .ok (.aload_n 1, 1) := by decide +kernel
theorem dX0_partAll_4 : decode cX0_partAll 4 = .ok (.getfield 23, 3) := by decide +kernel
theorem dX0_partAll_7 : decode cX0_partAll 7 = .ok (.if_icmp .ge 29, 3) := by decide +kernel
theorem dX0_partAll_10 : decode cX0_partAll 10 = .ok (.aload_n 0, 1) := by decide +kernel
theorem dX0_partAll_11 : decode cX0_partAll 11 = .ok (.getfield 15, 3) := by decide +kernel
theorem dX0_partAll_14 : decode cX0_partAll 14 = .ok (.iload_n 2, 1) := by decide +kernel
theorem dX0_partAll_15 : decode cX0_partAll 15 = .ok (.aload_n 1, 1) := by decide +kernel
theorem dX0_partAll_16 : decode cX0_partAll 16 = .ok (.getfield 28, 3) := by decide +kernel
theorem dX0_partAll_19 : decode cX0_partAll 19 = .ok (.iload_n 2, 1) := by decide +kernel
theorem dX0_partAll_20 : decode cX0_partAll 20 = .ok (.baload, 1) := by decide +kernel
theorem dX0_partAll_21 : decode cX0_partAll 21 = .ok (.ifCond .eq 7, 3) := by decide +kernel
theorem dX0_partAll_24 : decode cX0_partAll 24 = .ok (.lconst 1, 1) := by decide +kernel
theorem dX0_partAll_25 : decode cX0_partAll 25 = .ok (.goto 4, 3) := by decide +kernel
theorem dX0_partAll_28 : decode cX0_partAll 28 = .ok (.lconst 0, 1) := by decide +kernel
theorem dX0_partAll_29 : decode cX0_partAll 29 = .ok (.lastore, 1) := by decide +kernel
theorem dX0_partAll_30 : decode cX0_partAll 30 = .ok (.iinc 2 1, 3) := by decide +kernel
theorem dX0_partAll_33 : decode cX0_partAll 33 = .ok (.goto (-31), 3) := by decide +kernel
theorem dX0_partAll_36 : decode cX0_partAll 36 = .ok (.aload_n 0, 1) := by decide +kernel
theorem dX0_partAll_37 : decode cX0_partAll 37 = .ok (.aload_n 1, 1) := by decide +kernel
theorem dX0_partAll_38 : decode cX0_partAll 38 = .ok (.getfield 23, 3) := by decide +kernel
theorem dX0_partAll_41 : decode cX0_partAll 41 = .ok (.invokevirtual 32, 3) := by decide +kernel
theorem dX0_partAll_44 : decode cX0_partAll 44 = .ok (.iconst 0, 1) := by decide +kernel
theorem dX0_partAll_45 : decode cX0_partAll 45 = .ok (.istore_n 2, 1) := by decide +kernel
theorem dX0_partAll_46 : decode cX0_partAll 46 = .ok (.iload_n 2, 1) := by decide +kernel
theorem dX0_partAll_47 : decode cX0_partAll 47 = .ok (.aload_n 1, 1) := by decide +kernel
theorem dX0_partAll_48 : decode cX0_partAll 48 = .ok (.getfield 23, 3) := by decide +kernel
theorem dX0_partAll_51 : decode cX0_partAll 51 = .ok (.if_icmp .ge 36, 3) := by decide +kernel
theorem dX0_partAll_54 : decode cX0_partAll 54 = .ok (.aload_n 0, 1) := by decide +kernel
theorem dX0_partAll_55 : decode cX0_partAll 55 = .ok (.getfield 19, 3) := by decide +kernel
theorem dX0_partAll_58 : decode cX0_partAll 58 = .ok (.istore_n 3, 1) := by decide +kernel
theorem dX0_partAll_59 : decode cX0_partAll 59 = .ok (.aload_n 0, 1) := by decide +kernel
theorem dX0_partAll_60 : decode cX0_partAll 60 = .ok (.aload_n 1, 1) := by decide +kernel
theorem dX0_partAll_61 : decode cX0_partAll 61 = .ok (.invokevirtual 36, 3) := by decide +kernel
theorem dX0_partAll_64 : decode cX0_partAll 64 = .ok (.aload_n 0, 1) := by decide +kernel
theorem dX0_partAll_65 : decode cX0_partAll 65 = .ok (.aload_n 1, 1) := by decide +kernel
theorem dX0_partAll_66 : decode cX0_partAll 66 = .ok (.getfield 23, 3) := by decide +kernel
theorem dX0_partAll_69 : decode cX0_partAll 69 = .ok (.invokevirtual 32, 3) := by decide +kernel
theorem dX0_partAll_72 : decode cX0_partAll 72 = .ok (.aload_n 0, 1) := by decide +kernel
theorem dX0_partAll_73 : decode cX0_partAll 73 = .ok (.getfield 19, 3) := by decide +kernel
theorem dX0_partAll_76 : decode cX0_partAll 76 = .ok (.iload_n 3, 1) := by decide +kernel
theorem dX0_partAll_77 : decode cX0_partAll 77 = .ok (.if_icmp .ne 4, 3) := by decide +kernel
theorem dX0_partAll_80 : decode cX0_partAll 80 = .ok (.return_, 1) := by decide +kernel
theorem dX0_partAll_81 : decode cX0_partAll 81 = .ok (.iinc 2 1, 3) := by decide +kernel
theorem dX0_partAll_84 : decode cX0_partAll 84 = .ok (.goto (-38), 3) := by decide +kernel
theorem dX0_partAll_87 : decode cX0_partAll 87 = .ok (.return_, 1) := by decide +kernel
theorem dX0_keyByDoors_0 : decode cX0_keyByDoors 0 = .ok (.iconst 0, 1) := by decide +kernel
theorem dX0_keyByDoors_1 : decode cX0_keyByDoors 1 = .ok (.istore_n 2, 1) := by decide +kernel
theorem dX0_keyByDoors_2 : decode cX0_keyByDoors 2 = .ok (.iload_n 2, 1) := by decide +kernel
theorem dX0_keyByDoors_3 : decode cX0_keyByDoors 3 = .ok (.aload_n 1, 1) := by decide +kernel
theorem dX0_keyByDoors_4 : decode cX0_keyByDoors 4 = .ok (.getfield 23, 3) := by decide +kernel
theorem dX0_keyByDoors_7 : decode cX0_keyByDoors 7 = .ok (.if_icmp .ge 74, 3) := by decide +kernel
theorem dX0_keyByDoors_10 : decode cX0_keyByDoors 10 = .ok (.aload_n 0, 1) := by decide +kernel
theorem dX0_keyByDoors_11 : decode cX0_keyByDoors 11 = .ok (.getfield 11, 3) := by decide +kernel
theorem dX0_keyByDoors_14 : decode cX0_keyByDoors 14 = .ok (.iload_n 2, 1) := by decide +kernel
theorem dX0_keyByDoors_15 : decode cX0_keyByDoors 15 = .ok (.iaload, 1) := by decide +kernel
theorem dX0_keyByDoors_16 : decode cX0_keyByDoors 16 = .ok (.i2l, 1) := by decide +kernel
theorem dX0_keyByDoors_17 : decode cX0_keyByDoors 17 = .ok (.bipush 36, 2) := by decide +kernel
theorem dX0_keyByDoors_19 : decode cX0_keyByDoors 19 = .ok (.lshl, 1) := by decide +kernel
theorem dX0_keyByDoors_20 : decode cX0_keyByDoors 20 = .ok (.lstore_n 3, 1) := by decide +kernel
theorem dX0_keyByDoors_21 : decode cX0_keyByDoors 21 = .ok (.iconst 0, 1) := by decide +kernel
theorem dX0_keyByDoors_22 : decode cX0_keyByDoors 22 = .ok (.istore 5, 2) := by decide +kernel
theorem dX0_keyByDoors_24 : decode cX0_keyByDoors 24 = .ok (.iload 5, 2) := by decide +kernel
theorem dX0_keyByDoors_26 : decode cX0_keyByDoors 26 = .ok (.aload_n 1, 1) := by decide +kernel
theorem dX0_keyByDoors_27 : decode cX0_keyByDoors 27 = .ok (.getfield 40, 3) := by decide +kernel
theorem dX0_keyByDoors_30 : decode cX0_keyByDoors 30 = .ok (.if_icmp .ge 38, 3) := by decide +kernel
theorem dX0_keyByDoors_33 : decode cX0_keyByDoors 33 = .ok (.aload_n 1, 1) := by decide +kernel
theorem dX0_keyByDoors_34 : decode cX0_keyByDoors 34 = .ok (.getfield 43, 3) := by decide +kernel
theorem dX0_keyByDoors_37 : decode cX0_keyByDoors 37 = .ok (.iload_n 2, 1) := by decide +kernel
theorem dX0_keyByDoors_38 : decode cX0_keyByDoors 38 = .ok (.iconst 4, 1) := by decide +kernel
theorem dX0_keyByDoors_39 : decode cX0_keyByDoors 39 = .ok (.imul, 1) := by decide +kernel
theorem dX0_keyByDoors_40 : decode cX0_keyByDoors 40 = .ok (.iload 5, 2) := by decide +kernel
theorem dX0_keyByDoors_42 : decode cX0_keyByDoors 42 = .ok (.iadd, 1) := by decide +kernel
theorem dX0_keyByDoors_43 : decode cX0_keyByDoors 43 = .ok (.iaload, 1) := by decide +kernel
theorem dX0_keyByDoors_44 : decode cX0_keyByDoors 44 = .ok (.iconst 4, 1) := by decide +kernel
theorem dX0_keyByDoors_45 : decode cX0_keyByDoors 45 = .ok (.idiv, 1) := by decide +kernel
theorem dX0_keyByDoors_46 : decode cX0_keyByDoors 46 = .ok (.istore 6, 2) := by decide +kernel
theorem dX0_keyByDoors_48 : decode cX0_keyByDoors 48 = .ok (.lload_n 3, 1) := by decide +kernel
theorem dX0_keyByDoors_49 : decode cX0_keyByDoors 49 = .ok (.lconst 1, 1) := by decide +kernel
theorem dX0_keyByDoors_50 : decode cX0_keyByDoors 50 = .ok (.iconst 3, 1) := by decide +kernel
theorem dX0_keyByDoors_51 : decode cX0_keyByDoors 51 = .ok (.aload_n 0, 1) := by decide +kernel
theorem dX0_keyByDoors_52 : decode cX0_keyByDoors 52 = .ok (.getfield 11, 3) := by decide +kernel
theorem dX0_keyByDoors_55 : decode cX0_keyByDoors 55 = .ok (.iload 6, 2) := by decide +kernel
theorem dX0_keyByDoors_57 : decode cX0_keyByDoors 57 = .ok (.iaload, 1) := by decide +kernel
theorem dX0_keyByDoors_58 : decode cX0_keyByDoors 58 = .ok (.imul, 1) := by decide +kernel
theorem dX0_keyByDoors_59 : decode cX0_keyByDoors 59 = .ok (.lshl, 1) := by decide +kernel
theorem dX0_keyByDoors_60 : decode cX0_keyByDoors 60 = .ok (.ladd, 1) := by decide +kernel
theorem dX0_keyByDoors_61 : decode cX0_keyByDoors 61 = .ok (.lstore_n 3, 1) := by decide +kernel
theorem dX0_keyByDoors_62 : decode cX0_keyByDoors 62 = .ok (.iinc 5 1, 3) := by decide +kernel
theorem dX0_keyByDoors_65 : decode cX0_keyByDoors 65 = .ok (.goto (-41), 3) := by decide +kernel
theorem dX0_keyByDoors_68 : decode cX0_keyByDoors 68 = .ok (.aload_n 0, 1) := by decide +kernel
theorem dX0_keyByDoors_69 : decode cX0_keyByDoors 69 = .ok (.getfield 15, 3) := by decide +kernel
theorem dX0_keyByDoors_72 : decode cX0_keyByDoors 72 = .ok (.iload_n 2, 1) := by decide +kernel
theorem dX0_keyByDoors_73 : decode cX0_keyByDoors 73 = .ok (.lload_n 3, 1) := by decide +kernel
theorem dX0_keyByDoors_74 : decode cX0_keyByDoors 74 = .ok (.lastore, 1) := by decide +kernel
theorem dX0_keyByDoors_75 : decode cX0_keyByDoors 75 = .ok (.iinc 2 1, 3) := by decide +kernel
theorem dX0_keyByDoors_78 : decode cX0_keyByDoors 78 = .ok (.goto (-76), 3) := by decide +kernel
theorem dX0_keyByDoors_81 : decode cX0_keyByDoors 81 = .ok (.return_, 1) := by decide +kernel
theorem dX0_numberByKeys_0 : decode cX0_numberByKeys 0 = .ok (.aload_n 0, 1) := by decide +kernel
theorem dX0_numberByKeys_1 : decode cX0_numberByKeys 1 = .ok (.iconst 0, 1) := by decide +kernel
theorem dX0_numberByKeys_2 : decode cX0_numberByKeys 2 = .ok (.putfield 19, 3) := by decide +kernel
theorem dX0_numberByKeys_5 : decode cX0_numberByKeys 5 = .ok (.iconst 0, 1) := by decide +kernel
theorem dX0_numberByKeys_6 : decode cX0_numberByKeys 6 = .ok (.istore_n 2, 1) := by decide +kernel
theorem dX0_numberByKeys_7 : decode cX0_numberByKeys 7 = .ok (.iload_n 2, 1) := by decide +kernel
theorem dX0_numberByKeys_8 : decode cX0_numberByKeys 8 = .ok (.iload_n 1, 1) := by decide +kernel
theorem dX0_numberByKeys_9 : decode cX0_numberByKeys 9 = .ok (.if_icmp .ge 78, 3) := by decide +kernel
theorem dX0_numberByKeys_12 : decode cX0_numberByKeys 12 = .ok (.iconst 0, 1) := by decide +kernel
theorem dX0_numberByKeys_13 : decode cX0_numberByKeys 13 = .ok (.istore_n 3, 1) := by decide +kernel
theorem dX0_numberByKeys_14 : decode cX0_numberByKeys 14 = .ok (.iload_n 3, 1) := by decide +kernel
theorem dX0_numberByKeys_15 : decode cX0_numberByKeys 15 = .ok (.iload_n 2, 1) := by decide +kernel
theorem dX0_numberByKeys_16 : decode cX0_numberByKeys 16 = .ok (.if_icmp .ge 25, 3) := by decide +kernel
theorem dX0_numberByKeys_19 : decode cX0_numberByKeys 19 = .ok (.aload_n 0, 1) := by decide +kernel
theorem dX0_numberByKeys_20 : decode cX0_numberByKeys 20 = .ok (.getfield 15, 3) := by decide +kernel
theorem dX0_numberByKeys_23 : decode cX0_numberByKeys 23 = .ok (.iload_n 3, 1) := by decide +kernel
theorem dX0_numberByKeys_24 : decode cX0_numberByKeys 24 = .ok (.laload, 1) := by decide +kernel
theorem dX0_numberByKeys_25 : decode cX0_numberByKeys 25 = .ok (.aload_n 0, 1) := by decide +kernel
theorem dX0_numberByKeys_26 : decode cX0_numberByKeys 26 = .ok (.getfield 15, 3) := by decide +kernel
theorem dX0_numberByKeys_29 : decode cX0_numberByKeys 29 = .ok (.iload_n 2, 1) := by decide +kernel
theorem dX0_numberByKeys_30 : decode cX0_numberByKeys 30 = .ok (.laload, 1) := by decide +kernel
theorem dX0_numberByKeys_31 : decode cX0_numberByKeys 31 = .ok (.lcmp, 1) := by decide +kernel
theorem dX0_numberByKeys_32 : decode cX0_numberByKeys 32 = .ok (.ifCond .eq 9, 3) := by decide +kernel
theorem dX0_numberByKeys_35 : decode cX0_numberByKeys 35 = .ok (.iinc 3 1, 3) := by decide +kernel
theorem dX0_numberByKeys_38 : decode cX0_numberByKeys 38 = .ok (.goto (-24), 3) := by decide +kernel
theorem dX0_numberByKeys_41 : decode cX0_numberByKeys 41 = .ok (.iload_n 3, 1) := by decide +kernel
theorem dX0_numberByKeys_42 : decode cX0_numberByKeys 42 = .ok (.iload_n 2, 1) := by decide +kernel
theorem dX0_numberByKeys_43 : decode cX0_numberByKeys 43 = .ok (.if_icmp .ge 18, 3) := by decide +kernel
theorem dX0_numberByKeys_46 : decode cX0_numberByKeys 46 = .ok (.aload_n 0, 1) := by decide +kernel
theorem dX0_numberByKeys_47 : decode cX0_numberByKeys 47 = .ok (.getfield 11, 3) := by decide +kernel
theorem dX0_numberByKeys_50 : decode cX0_numberByKeys 50 = .ok (.iload_n 2, 1) := by decide +kernel
theorem dX0_numberByKeys_51 : decode cX0_numberByKeys 51 = .ok (.aload_n 0, 1) := by decide +kernel
theorem dX0_numberByKeys_52 : decode cX0_numberByKeys 52 = .ok (.getfield 11, 3) := by decide +kernel
theorem dX0_numberByKeys_55 : decode cX0_numberByKeys 55 = .ok (.iload_n 3, 1) := by decide +kernel
theorem dX0_numberByKeys_56 : decode cX0_numberByKeys 56 = .ok (.iaload, 1) := by decide +kernel
theorem dX0_numberByKeys_57 : decode cX0_numberByKeys 57 = .ok (.iastore, 1) := by decide +kernel
theorem dX0_numberByKeys_58 : decode cX0_numberByKeys 58 = .ok (.goto 23, 3) := by decide +kernel
theorem dX0_numberByKeys_61 : decode cX0_numberByKeys 61 = .ok (.aload_n 0, 1) := by decide +kernel
theorem dX0_numberByKeys_62 : decode cX0_numberByKeys 62 = .ok (.getfield 11, 3) := by decide +kernel
theorem dX0_numberByKeys_65 : decode cX0_numberByKeys 65 = .ok (.iload_n 2, 1) := by decide +kernel
theorem dX0_numberByKeys_66 : decode cX0_numberByKeys 66 = .ok (.aload_n 0, 1) := by decide +kernel
theorem dX0_numberByKeys_67 : decode cX0_numberByKeys 67 = .ok (.getfield 19, 3) := by decide +kernel
theorem dX0_numberByKeys_70 : decode cX0_numberByKeys 70 = .ok (.iastore, 1) := by decide +kernel
theorem dX0_numberByKeys_71 : decode cX0_numberByKeys 71 = .ok (.aload_n 0, 1) := by decide +kernel
theorem dX0_numberByKeys_72 : decode cX0_numberByKeys 72 = .ok (.dup, 1) := by decide +kernel
theorem dX0_numberByKeys_73 : decode cX0_numberByKeys 73 = .ok (.getfield 19, 3) := by decide +kernel
theorem dX0_numberByKeys_76 : decode cX0_numberByKeys 76 = .ok (.iconst 1, 1) := by decide +kernel
theorem dX0_numberByKeys_77 : decode cX0_numberByKeys 77 = .ok (.iadd, 1) := by decide +kernel
theorem dX0_numberByKeys_78 : decode cX0_numberByKeys 78 = .ok (.putfield 19, 3) := by decide +kernel
theorem dX0_numberByKeys_81 : decode cX0_numberByKeys 81 = .ok (.iinc 2 1, 3) := by decide +kernel
theorem dX0_numberByKeys_84 : decode cX0_numberByKeys 84 = .ok (.goto (-77), 3) := by decide +kernel
theorem dX0_numberByKeys_87 : decode cX0_numberByKeys 87 = .ok (.return_, 1) := by decide +kernel
theorem dX1_init_0 : decode cX1_init 0 = .ok (.aload_n 0, 1) := by decide +kernel
theorem dX1_init_1 : decode cX1_init 1 = .ok (.invokespecial 3, 3) := by decide +kernel
theorem dX1_init_4 : decode cX1_init 4 = .ok (.aload_n 0, 1) := by decide +kernel
theorem dX1_init_5 : decode cX1_init 5 = .ok (.bipush 48, 2) := by decide +kernel
theorem dX1_init_7 : decode cX1_init 7 = .ok (.newarray .int, 2) := by decide +kernel
theorem dX1_init_9 : decode cX1_init 9 = .ok (.putfield 9, 3) := by decide +kernel
theorem dX1_init_12 : decode cX1_init 12 = .ok (.aload_n 0, 1) := by decide +kernel
theorem dX1_init_13 : decode cX1_init 13 = .ok (.bipush 12, 2) := by decide +kernel
theorem dX1_init_15 : decode cX1_init 15 = .ok (.newarray .boolean, 2) := by decide +kernel
theorem dX1_init_17 : decode cX1_init 17 = .ok (.putfield 15, 3) := by decide +kernel
theorem dX1_init_20 : decode cX1_init 20 = .ok (.aload_n 0, 1) := by decide +kernel
theorem dX1_init_21 : decode cX1_init 21 = .ok (.iconst 0, 1) := by decide +kernel
theorem dX1_init_22 : decode cX1_init 22 = .ok (.putfield 19, 3) := by decide +kernel
theorem dX1_init_25 : decode cX1_init 25 = .ok (.aload_n 0, 1) := by decide +kernel
theorem dX1_init_26 : decode cX1_init 26 = .ok (.iload_n 1, 1) := by decide +kernel
theorem dX1_init_27 : decode cX1_init 27 = .ok (.putfield 23, 3) := by decide +kernel
theorem dX1_init_30 : decode cX1_init 30 = .ok (.aload_n 0, 1) := by decide +kernel
theorem dX1_init_31 : decode cX1_init 31 = .ok (.iload_n 2, 1) := by decide +kernel
theorem dX1_init_32 : decode cX1_init 32 = .ok (.putfield 27, 3) := by decide +kernel
theorem dX1_init_35 : decode cX1_init 35 = .ok (.iload_n 2, 1) := by decide +kernel
theorem dX1_init_36 : decode cX1_init 36 = .ok (.iconst 2, 1) := by decide +kernel
theorem dX1_init_37 : decode cX1_init 37 = .ok (.if_icmp .ne 18, 3) := by decide +kernel
theorem dX1_init_40 : decode cX1_init 40 = .ok (.aload_n 0, 1) := by decide +kernel
theorem dX1_init_41 : decode cX1_init 41 = .ok (.iconst 2, 1) := by decide +kernel
theorem dX1_init_42 : decode cX1_init 42 = .ok (.putfield 30, 3) := by decide +kernel
theorem dX1_init_45 : decode cX1_init 45 = .ok (.aload_n 0, 1) := by decide +kernel
theorem dX1_init_46 : decode cX1_init 46 = .ok (.ldc2_w 33, 3) := by decide +kernel
theorem dX1_init_49 : decode cX1_init 49 = .ok (.putfield 35, 3) := by decide +kernel
theorem dX1_init_52 : decode cX1_init 52 = .ok (.goto 36, 3) := by decide +kernel
theorem dX1_init_55 : decode cX1_init 55 = .ok (.iload_n 2, 1) := by decide +kernel
theorem dX1_init_56 : decode cX1_init 56 = .ok (.iconst 3, 1) := by decide +kernel
theorem dX1_init_57 : decode cX1_init 57 = .ok (.if_icmp .ne 19, 3) := by decide +kernel
theorem dX1_init_60 : decode cX1_init 60 = .ok (.aload_n 0, 1) := by decide +kernel
theorem dX1_init_61 : decode cX1_init 61 = .ok (.bipush 9, 2) := by decide +kernel
theorem dX1_init_63 : decode cX1_init 63 = .ok (.putfield 30, 3) := by decide +kernel
theorem dX1_init_66 : decode cX1_init 66 = .ok (.aload_n 0, 1) := by decide +kernel
theorem dX1_init_67 : decode cX1_init 67 = .ok (.ldc2_w 39, 3) := by decide +kernel
theorem dX1_init_70 : decode cX1_init 70 = .ok (.putfield 35, 3) := by decide +kernel
theorem dX1_init_73 : decode cX1_init 73 = .ok (.goto 15, 3) := by decide +kernel
theorem dX1_init_76 : decode cX1_init 76 = .ok (.aload_n 0, 1) := by decide +kernel
theorem dX1_init_77 : decode cX1_init 77 = .ok (.iconst 4, 1) := by decide +kernel
theorem dX1_init_78 : decode cX1_init 78 = .ok (.putfield 30, 3) := by decide +kernel
theorem dX1_init_81 : decode cX1_init 81 = .ok (.aload_n 0, 1) := by decide +kernel
theorem dX1_init_82 : decode cX1_init 82 = .ok (.ldc2_w 41, 3) := by decide +kernel
theorem dX1_init_85 : decode cX1_init 85 = .ok (.putfield 35, 3) := by decide +kernel
theorem dX1_init_88 : decode cX1_init 88 = .ok (.iconst 0, 1) := by decide +kernel
theorem dX1_init_89 : decode cX1_init 89 = .ok (.istore_n 3, 1) := by decide +kernel
theorem dX1_init_90 : decode cX1_init 90 = .ok (.iload_n 3, 1) := by decide +kernel
theorem dX1_init_91 : decode cX1_init 91 = .ok (.bipush 48, 2) := by decide +kernel
theorem dX1_init_93 : decode cX1_init 93 = .ok (.if_icmp .ge 16, 3) := by decide +kernel
theorem dX1_init_96 : decode cX1_init 96 = .ok (.aload_n 0, 1) := by decide +kernel
theorem dX1_init_97 : decode cX1_init 97 = .ok (.getfield 9, 3) := by decide +kernel
theorem dX1_init_100 : decode cX1_init 100 = .ok (.iload_n 3, 1) := by decide +kernel
theorem dX1_init_101 : decode cX1_init 101 = .ok (.iload_n 3, 1) := by decide +kernel
theorem dX1_init_102 : decode cX1_init 102 = .ok (.iastore, 1) := by decide +kernel
theorem dX1_init_103 : decode cX1_init 103 = .ok (.iinc 3 1, 3) := by decide +kernel
theorem dX1_init_106 : decode cX1_init 106 = .ok (.goto (-16), 3) := by decide +kernel
theorem dX1_init_109 : decode cX1_init 109 = .ok (.return_, 1) := by decide +kernel
theorem dX1_joinCells_0 : decode cX1_joinCells 0 = .ok (.aload_n 0, 1) := by decide +kernel
theorem dX1_joinCells_1 : decode cX1_joinCells 1 = .ok (.getfield 9, 3) := by decide +kernel
theorem dX1_joinCells_4 : decode cX1_joinCells 4 = .ok (.iload_n 1, 1) := by decide +kernel
theorem dX1_joinCells_5 : decode cX1_joinCells 5 = .ok (.iaload, 1) := by decide +kernel
theorem dX1_joinCells_6 : decode cX1_joinCells 6 = .ok (.istore_n 3, 1) := by decide +kernel
theorem dX1_joinCells_7 : decode cX1_joinCells 7 = .ok (.aload_n 0, 1) := by decide +kernel
theorem dX1_joinCells_8 : decode cX1_joinCells 8 = .ok (.getfield 9, 3) := by decide +kernel
theorem dX1_joinCells_11 : decode cX1_joinCells 11 = .ok (.iload_n 2, 1) := by decide +kernel
theorem dX1_joinCells_12 : decode cX1_joinCells 12 = .ok (.iaload, 1) := by decide +kernel
theorem dX1_joinCells_13 : decode cX1_joinCells 13 = .ok (.istore 4, 2) := by decide +kernel
theorem dX1_joinCells_15 : decode cX1_joinCells 15 = .ok (.aload_n 0, 1) := by decide +kernel
theorem dX1_joinCells_16 : decode cX1_joinCells 16 = .ok (.getfield 9, 3) := by decide +kernel
theorem dX1_joinCells_19 : decode cX1_joinCells 19 = .ok (.iload_n 3, 1) := by decide +kernel
theorem dX1_joinCells_20 : decode cX1_joinCells 20 = .ok (.iload_n 3, 1) := by decide +kernel
theorem dX1_joinCells_21 : decode cX1_joinCells 21 = .ok (.iastore, 1) := by decide +kernel
theorem dX1_joinCells_22 : decode cX1_joinCells 22 = .ok (.aload_n 0, 1) := by decide +kernel
theorem dX1_joinCells_23 : decode cX1_joinCells 23 = .ok (.getfield 9, 3) := by decide +kernel
theorem dX1_joinCells_26 : decode cX1_joinCells 26 = .ok (.iload 4, 2) := by decide +kernel
theorem dX1_joinCells_28 : decode cX1_joinCells 28 = .ok (.iload 4, 2) := by decide +kernel
theorem dX1_joinCells_30 : decode cX1_joinCells 30 = .ok (.iastore, 1) := by decide +kernel
theorem dX1_joinCells_31 : decode cX1_joinCells 31 = .ok (.aload_n 0, 1) := by decide +kernel
theorem dX1_joinCells_32 : decode cX1_joinCells 32 = .ok (.getfield 9, 3) := by decide +kernel
theorem dX1_joinCells_35 : decode cX1_joinCells 35 = .ok (.iload_n 1, 1) := by decide +kernel
theorem dX1_joinCells_36 : decode cX1_joinCells 36 = .ok (.iload_n 2, 1) := by decide +kernel
theorem dX1_joinCells_37 : decode cX1_joinCells 37 = .ok (.iastore, 1) := by decide +kernel
theorem dX1_joinCells_38 : decode cX1_joinCells 38 = .ok (.aload_n 0, 1) := by decide +kernel
theorem dX1_joinCells_39 : decode cX1_joinCells 39 = .ok (.getfield 9, 3) := by decide +kernel
theorem dX1_joinCells_42 : decode cX1_joinCells 42 = .ok (.iload_n 2, 1) := by decide +kernel
theorem dX1_joinCells_43 : decode cX1_joinCells 43 = .ok (.iload_n 1, 1) := by decide +kernel
theorem dX1_joinCells_44 : decode cX1_joinCells 44 = .ok (.iastore, 1) := by decide +kernel
theorem dX1_joinCells_45 : decode cX1_joinCells 45 = .ok (.return_, 1) := by decide +kernel
set_option maxRecDepth 20000 in
theorem ggX2_init_X3_init : GoodIn wsX2_init wsX3_init := goodIn_r _ [11, 12, 2, 3, 13, 14, 15, 16, 17] (by decide +kernel) (by decide +kernel)
set_option maxRecDepth 20000 in
theorem gX2_init_X3_init_n9 : GoodIn wsX2_init (wsX3_init) := ggX2_init_X3_init
theorem dX2_init_0 : decode cX2_init 0 = .ok (.aload_n 0, 1) := by decide +kernel
theorem dX2_init_1 : decode cX2_init 1 = .ok (.invokespecial 1, 3) := by decide +kernel
theorem dX2_init_4 : decode cX2_init 4 = .ok (.aload_n 0, 1) := by decide +kernel
theorem dX2_init_5 : decode cX2_init 5 = .ok (.new 7, 3) := by decide +kernel
theorem dX2_init_8 : decode cX2_init 8 = .ok (.dup, 1) := by decide +kernel
theorem dX2_init_9 : decode cX2_init 9 = .ok (.invokespecial 9, 3) := by decide +kernel
theorem dX2_init_12 : decode cX2_init 12 = .ok (.putfield 10, 3) := by decide +kernel
theorem dX2_init_15 : decode cX2_init 15 = .ok (.aload_n 0, 1) := by decide +kernel
theorem dX2_init_16 : decode cX2_init 16 = .ok (.iload_n 1, 1) := by decide +kernel
theorem dX2_init_17 : decode cX2_init 17 = .ok (.putfield 16, 3) := by decide +kernel
theorem dX2_init_20 : decode cX2_init 20 = .ok (.aload_n 0, 1) := by decide +kernel
theorem dX2_init_21 : decode cX2_init 21 = .ok (.aload_n 2, 1) := by decide +kernel
theorem dX2_init_22 : decode cX2_init 22 = .ok (.putfield 20, 3) := by decide +kernel
theorem dX2_init_25 : decode cX2_init 25 = .ok (.return_, 1) := by decide +kernel
theorem dX3_init_0 : decode cX3_init 0 = .ok (.aload_n 0, 1) := by decide +kernel
theorem dX3_init_1 : decode cX3_init 1 = .ok (.invokespecial 3, 3) := by decide +kernel
theorem dX3_init_4 : decode cX3_init 4 = .ok (.aload_n 0, 1) := by decide +kernel
theorem dX3_init_5 : decode cX3_init 5 = .ok (.bipush 48, 2) := by decide +kernel
theorem dX3_init_7 : decode cX3_init 7 = .ok (.newarray .long, 2) := by decide +kernel
theorem dX3_init_9 : decode cX3_init 9 = .ok (.putfield 9, 3) := by decide +kernel
theorem dX3_init_12 : decode cX3_init 12 = .ok (.aload_n 0, 1) := by decide +kernel
theorem dX3_init_13 : decode cX3_init 13 = .ok (.iconst 0, 1) := by decide +kernel
theorem dX3_init_14 : decode cX3_init 14 = .ok (.putfield 15, 3) := by decide +kernel
theorem dX3_init_17 : decode cX3_init 17 = .ok (.return_, 1) := by decide +kernel
theorem dX3_becomeLike_0 : decode cX3_becomeLike 0 = .ok (.aload_n 1, 1) := by decide +kernel
theorem dX3_becomeLike_1 : decode cX3_becomeLike 1 = .ok (.getfield 9, 3) := by decide +kernel
theorem dX3_becomeLike_4 : decode cX3_becomeLike 4 = .ok (.iconst 0, 1) := by decide +kernel
theorem dX3_becomeLike_5 : decode cX3_becomeLike 5 = .ok (.aload_n 0, 1) := by decide +kernel
theorem dX3_becomeLike_6 : decode cX3_becomeLike 6 = .ok (.getfield 9, 3) := by decide +kernel
theorem dX3_becomeLike_9 : decode cX3_becomeLike 9 = .ok (.iconst 0, 1) := by decide +kernel
theorem dX3_becomeLike_10 : decode cX3_becomeLike 10 = .ok (.bipush 48, 2) := by decide +kernel
theorem dX3_becomeLike_12 : decode cX3_becomeLike 12 = .ok (.invokestatic 19, 3) := by decide +kernel
theorem dX3_becomeLike_15 : decode cX3_becomeLike 15 = .ok (.aload_n 0, 1) := by decide +kernel
theorem dX3_becomeLike_16 : decode cX3_becomeLike 16 = .ok (.aload_n 1, 1) := by decide +kernel
theorem dX3_becomeLike_17 : decode cX3_becomeLike 17 = .ok (.getfield 15, 3) := by decide +kernel
theorem dX3_becomeLike_20 : decode cX3_becomeLike 20 = .ok (.putfield 15, 3) := by decide +kernel
theorem dX3_becomeLike_23 : decode cX3_becomeLike 23 = .ok (.return_, 1) := by decide +kernel
theorem dX3_fillAll_0 : decode cX3_fillAll 0 = .ok (.iconst 0, 1) := by decide +kernel
theorem dX3_fillAll_1 : decode cX3_fillAll 1 = .ok (.istore_n 3, 1) := by decide +kernel
theorem dX3_fillAll_2 : decode cX3_fillAll 2 = .ok (.iload_n 3, 1) := by decide +kernel
theorem dX3_fillAll_3 : decode cX3_fillAll 3 = .ok (.aload_n 1, 1) := by decide +kernel
theorem dX3_fillAll_4 : decode cX3_fillAll 4 = .ok (.getfield 25, 3) := by decide +kernel
theorem dX3_fillAll_7 : decode cX3_fillAll 7 = .ok (.if_icmp .ge 40, 3) := by decide +kernel
theorem dX3_fillAll_10 : decode cX3_fillAll 10 = .ok (.iconst 0, 1) := by decide +kernel
theorem dX3_fillAll_11 : decode cX3_fillAll 11 = .ok (.istore 4, 2) := by decide +kernel
theorem dX3_fillAll_13 : decode cX3_fillAll 13 = .ok (.iload 4, 2) := by decide +kernel
theorem dX3_fillAll_15 : decode cX3_fillAll 15 = .ok (.aload_n 1, 1) := by decide +kernel
theorem dX3_fillAll_16 : decode cX3_fillAll 16 = .ok (.getfield 30, 3) := by decide +kernel
theorem dX3_fillAll_19 : decode cX3_fillAll 19 = .ok (.if_icmp .ge 22, 3) := by decide +kernel
theorem dX3_fillAll_22 : decode cX3_fillAll 22 = .ok (.aload_n 0, 1) := by decide +kernel
theorem dX3_fillAll_23 : decode cX3_fillAll 23 = .ok (.getfield 9, 3) := by decide +kernel
theorem dX3_fillAll_26 : decode cX3_fillAll 26 = .ok (.iload_n 3, 1) := by decide +kernel
theorem dX3_fillAll_27 : decode cX3_fillAll 27 = .ok (.iconst 4, 1) := by decide +kernel
theorem dX3_fillAll_28 : decode cX3_fillAll 28 = .ok (.imul, 1) := by decide +kernel
theorem dX3_fillAll_29 : decode cX3_fillAll 29 = .ok (.iload 4, 2) := by decide +kernel
theorem dX3_fillAll_31 : decode cX3_fillAll 31 = .ok (.iadd, 1) := by decide +kernel
theorem dX3_fillAll_32 : decode cX3_fillAll 32 = .ok (.iload_n 2, 1) := by decide +kernel
theorem dX3_fillAll_33 : decode cX3_fillAll 33 = .ok (.i2l, 1) := by decide +kernel
theorem dX3_fillAll_34 : decode cX3_fillAll 34 = .ok (.lastore, 1) := by decide +kernel
theorem dX3_fillAll_35 : decode cX3_fillAll 35 = .ok (.iinc 4 1, 3) := by decide +kernel
theorem dX3_fillAll_38 : decode cX3_fillAll 38 = .ok (.goto (-25), 3) := by decide +kernel
theorem dX3_fillAll_41 : decode cX3_fillAll 41 = .ok (.iinc 3 1, 3) := by decide +kernel
theorem dX3_fillAll_44 : decode cX3_fillAll 44 = .ok (.goto (-42), 3) := by decide +kernel
theorem dX3_fillAll_47 : decode cX3_fillAll 47 = .ok (.aload_n 0, 1) := by decide +kernel
theorem dX3_fillAll_48 : decode cX3_fillAll 48 = .ok (.iconst 0, 1) := by decide +kernel
theorem dX3_fillAll_49 : decode cX3_fillAll 49 = .ok (.putfield 15, 3) := by decide +kernel
theorem dX3_fillAll_52 : decode cX3_fillAll 52 = .ok (.return_, 1) := by decide +kernel
set_option maxRecDepth 20000 in
theorem ggX3_isToldBut_X4_isTold : GoodIn wsX3_isToldBut wsX4_isTold := goodIn_r _ [4, 5, 6] (by decide +kernel) (by decide +kernel)
set_option maxRecDepth 20000 in
theorem gX3_isToldBut_X4_isTold_n33 : GoodIn wsX3_isToldBut (wsX4_isTold) := ggX3_isToldBut_X4_isTold
theorem dX3_isToldBut_0 : decode cX3_isToldBut 0 = .ok (.iconst 0, 1) := by decide +kernel
theorem dX3_isToldBut_1 : decode cX3_isToldBut 1 = .ok (.istore_n 2, 1) := by decide +kernel
theorem dX3_isToldBut_2 : decode cX3_isToldBut 2 = .ok (.iload_n 2, 1) := by decide +kernel
theorem dX3_isToldBut_3 : decode cX3_isToldBut 3 = .ok (.bipush 48, 2) := by decide +kernel
theorem dX3_isToldBut_5 : decode cX3_isToldBut 5 = .ok (.if_icmp .ge 28, 3) := by decide +kernel
theorem dX3_isToldBut_8 : decode cX3_isToldBut 8 = .ok (.iload_n 2, 1) := by decide +kernel
theorem dX3_isToldBut_9 : decode cX3_isToldBut 9 = .ok (.iload_n 1, 1) := by decide +kernel
theorem dX3_isToldBut_10 : decode cX3_isToldBut 10 = .ok (.if_icmp .eq 17, 3) := by decide +kernel
theorem dX3_isToldBut_13 : decode cX3_isToldBut 13 = .ok (.aload_n 0, 1) := by decide +kernel
theorem dX3_isToldBut_14 : decode cX3_isToldBut 14 = .ok (.getfield 9, 3) := by decide +kernel
theorem dX3_isToldBut_17 : decode cX3_isToldBut 17 = .ok (.iload_n 2, 1) := by decide +kernel
theorem dX3_isToldBut_18 : decode cX3_isToldBut 18 = .ok (.laload, 1) := by decide +kernel
theorem dX3_isToldBut_19 : decode cX3_isToldBut 19 = .ok (.invokestatic 33, 3) := by decide +kernel
theorem dX3_isToldBut_22 : decode cX3_isToldBut 22 = .ok (.ifCond .ne 5, 3) := by decide +kernel
theorem dX3_isToldBut_25 : decode cX3_isToldBut 25 = .ok (.iconst 0, 1) := by decide +kernel
theorem dX3_isToldBut_26 : decode cX3_isToldBut 26 = .ok (.ireturn, 1) := by decide +kernel
theorem dX3_isToldBut_27 : decode cX3_isToldBut 27 = .ok (.iinc 2 1, 3) := by decide +kernel
theorem dX3_isToldBut_30 : decode cX3_isToldBut 30 = .ok (.goto (-28), 3) := by decide +kernel
theorem dX3_isToldBut_33 : decode cX3_isToldBut 33 = .ok (.iconst 1, 1) := by decide +kernel
theorem dX3_isToldBut_34 : decode cX3_isToldBut 34 = .ok (.ireturn, 1) := by decide +kernel
theorem dX3_squaresAt_0 : decode cX3_squaresAt 0 = .ok (.iload_n 1, 1) := by decide +kernel
theorem dX3_squaresAt_1 : decode cX3_squaresAt 1 = .ok (.iconst 4, 1) := by decide +kernel
theorem dX3_squaresAt_2 : decode cX3_squaresAt 2 = .ok (.imul, 1) := by decide +kernel
theorem dX3_squaresAt_3 : decode cX3_squaresAt 3 = .ok (.istore_n 2, 1) := by decide +kernel
theorem dX3_squaresAt_4 : decode cX3_squaresAt 4 = .ok (.lconst 0, 1) := by decide +kernel
theorem dX3_squaresAt_5 : decode cX3_squaresAt 5 = .ok (.lstore_n 3, 1) := by decide +kernel
theorem dX3_squaresAt_6 : decode cX3_squaresAt 6 = .ok (.iload_n 2, 1) := by decide +kernel
theorem dX3_squaresAt_7 : decode cX3_squaresAt 7 = .ok (.istore 5, 2) := by decide +kernel
theorem dX3_squaresAt_9 : decode cX3_squaresAt 9 = .ok (.iload 5, 2) := by decide +kernel
theorem dX3_squaresAt_11 : decode cX3_squaresAt 11 = .ok (.iload_n 2, 1) := by decide +kernel
theorem dX3_squaresAt_12 : decode cX3_squaresAt 12 = .ok (.iconst 4, 1) := by decide +kernel
theorem dX3_squaresAt_13 : decode cX3_squaresAt 13 = .ok (.iadd, 1) := by decide +kernel
theorem dX3_squaresAt_14 : decode cX3_squaresAt 14 = .ok (.if_icmp .ge 27, 3) := by decide +kernel
theorem dX3_squaresAt_17 : decode cX3_squaresAt 17 = .ok (.lload_n 3, 1) := by decide +kernel
theorem dX3_squaresAt_18 : decode cX3_squaresAt 18 = .ok (.aload_n 0, 1) := by decide +kernel
theorem dX3_squaresAt_19 : decode cX3_squaresAt 19 = .ok (.getfield 9, 3) := by decide +kernel
theorem dX3_squaresAt_22 : decode cX3_squaresAt 22 = .ok (.iload 5, 2) := by decide +kernel
theorem dX3_squaresAt_24 : decode cX3_squaresAt 24 = .ok (.laload, 1) := by decide +kernel
theorem dX3_squaresAt_25 : decode cX3_squaresAt 25 = .ok (.aload_n 0, 1) := by decide +kernel
theorem dX3_squaresAt_26 : decode cX3_squaresAt 26 = .ok (.getfield 9, 3) := by decide +kernel
theorem dX3_squaresAt_29 : decode cX3_squaresAt 29 = .ok (.iload 5, 2) := by decide +kernel
theorem dX3_squaresAt_31 : decode cX3_squaresAt 31 = .ok (.laload, 1) := by decide +kernel
theorem dX3_squaresAt_32 : decode cX3_squaresAt 32 = .ok (.lmul, 1) := by decide +kernel
theorem dX3_squaresAt_33 : decode cX3_squaresAt 33 = .ok (.ladd, 1) := by decide +kernel
theorem dX3_squaresAt_34 : decode cX3_squaresAt 34 = .ok (.lstore_n 3, 1) := by decide +kernel
theorem dX3_squaresAt_35 : decode cX3_squaresAt 35 = .ok (.iinc 5 1, 3) := by decide +kernel
theorem dX3_squaresAt_38 : decode cX3_squaresAt 38 = .ok (.goto (-29), 3) := by decide +kernel
theorem dX3_squaresAt_41 : decode cX3_squaresAt 41 = .ok (.lload_n 3, 1) := by decide +kernel
theorem dX3_squaresAt_42 : decode cX3_squaresAt 42 = .ok (.lreturn, 1) := by decide +kernel
set_option maxRecDepth 20000 in
theorem ggX3_squares_X3_squaresAt : GoodIn wsX3_squares wsX3_squaresAt := goodIn_r _ [5, 6, 7, 8] (by decide +kernel) (by decide +kernel)
set_option maxRecDepth 20000 in
theorem gX3_squares_X3_squaresAt : GoodIn wsX3_squares (wsV RX3 37 RX3 yX3_squaresAt wsX3_squaresAt) := goodIn_app (goodIn_of _ (by decide +kernel)) ggX3_squares_X3_squaresAt
theorem dX3_squares_0 : decode cX3_squares 0 = .ok (.lconst 0, 1) := by decide +kernel
theorem dX3_squares_1 : decode cX3_squares 1 = .ok (.lstore_n 1, 1) := by decide +kernel
theorem dX3_squares_2 : decode cX3_squares 2 = .ok (.iconst 0, 1) := by decide +kernel
theorem dX3_squares_3 : decode cX3_squares 3 = .ok (.istore_n 3, 1) := by decide +kernel
theorem dX3_squares_4 : decode cX3_squares 4 = .ok (.iload_n 3, 1) := by decide +kernel
theorem dX3_squares_5 : decode cX3_squares 5 = .ok (.bipush 12, 2) := by decide +kernel
theorem dX3_squares_7 : decode cX3_squares 7 = .ok (.if_icmp .ge 17, 3) := by decide +kernel
theorem dX3_squares_10 : decode cX3_squares 10 = .ok (.lload_n 1, 1) := by decide +kernel
theorem dX3_squares_11 : decode cX3_squares 11 = .ok (.aload_n 0, 1) := by decide +kernel
theorem dX3_squares_12 : decode cX3_squares 12 = .ok (.iload_n 3, 1) := by decide +kernel
theorem dX3_squares_13 : decode cX3_squares 13 = .ok (.invokevirtual 37, 3) := by decide +kernel
theorem dX3_squares_16 : decode cX3_squares 16 = .ok (.ladd, 1) := by decide +kernel
theorem dX3_squares_17 : decode cX3_squares 17 = .ok (.lstore_n 1, 1) := by decide +kernel
theorem dX3_squares_18 : decode cX3_squares 18 = .ok (.iinc 3 1, 3) := by decide +kernel
theorem dX3_squares_21 : decode cX3_squares 21 = .ok (.goto (-17), 3) := by decide +kernel
theorem dX3_squares_24 : decode cX3_squares 24 = .ok (.lload_n 1, 1) := by decide +kernel
theorem dX3_squares_25 : decode cX3_squares 25 = .ok (.lreturn, 1) := by decide +kernel
set_option maxRecDepth 20000 in
theorem ggX3_squaresAtMarked_X3_squaresAt : GoodIn wsX3_squaresAtMarked wsX3_squaresAt := goodIn_r _ [7, 8, 16, 17] (by decide +kernel) (by decide +kernel)
set_option maxRecDepth 20000 in
theorem gX3_squaresAtMarked_X3_squaresAt : GoodIn wsX3_squaresAtMarked (wsV RX3 37 RX3 yX3_squaresAt wsX3_squaresAt) := goodIn_app (goodIn_of _ (by decide +kernel)) ggX3_squaresAtMarked_X3_squaresAt
theorem dX3_squaresAtMarked_0 : decode cX3_squaresAtMarked 0 = .ok (.lconst 0, 1) := by decide +kernel
theorem dX3_squaresAtMarked_1 : decode cX3_squaresAtMarked 1 = .ok (.lstore_n 2, 1) := by decide +kernel
theorem dX3_squaresAtMarked_2 : decode cX3_squaresAtMarked 2 = .ok (.iconst 0, 1) := by decide +kernel
theorem dX3_squaresAtMarked_3 : decode cX3_squaresAtMarked 3 = .ok (.istore 4, 2) := by decide +kernel
theorem dX3_squaresAtMarked_5 : decode cX3_squaresAtMarked 5 = .ok (.iload 4, 2) := by decide +kernel
theorem dX3_squaresAtMarked_7 : decode cX3_squaresAtMarked 7 = .ok (.aload_n 1, 1) := by decide +kernel
theorem dX3_squaresAtMarked_8 : decode cX3_squaresAtMarked 8 = .ok (.getfield 25, 3) := by decide +kernel
theorem dX3_squaresAtMarked_11 : decode cX3_squaresAtMarked 11 = .ok (.if_icmp .ge 28, 3) := by decide +kernel
theorem dX3_squaresAtMarked_14 : decode cX3_squaresAtMarked 14 = .ok (.aload_n 1, 1) := by decide +kernel
theorem dX3_squaresAtMarked_15 : decode cX3_squaresAtMarked 15 = .ok (.getfield 41, 3) := by decide +kernel
theorem dX3_squaresAtMarked_18 : decode cX3_squaresAtMarked 18 = .ok (.iload 4, 2) := by decide +kernel
theorem dX3_squaresAtMarked_20 : decode cX3_squaresAtMarked 20 = .ok (.baload, 1) := by decide +kernel
theorem dX3_squaresAtMarked_21 : decode cX3_squaresAtMarked 21 = .ok (.ifCond .eq 12, 3) := by decide +kernel
theorem dX3_squaresAtMarked_24 : decode cX3_squaresAtMarked 24 = .ok (.lload_n 2, 1) := by decide +kernel
theorem dX3_squaresAtMarked_25 : decode cX3_squaresAtMarked 25 = .ok (.aload_n 0, 1) := by decide +kernel
theorem dX3_squaresAtMarked_26 : decode cX3_squaresAtMarked 26 = .ok (.iload 4, 2) := by decide +kernel
theorem dX3_squaresAtMarked_28 : decode cX3_squaresAtMarked 28 = .ok (.invokevirtual 37, 3) := by decide +kernel
theorem dX3_squaresAtMarked_31 : decode cX3_squaresAtMarked 31 = .ok (.ladd, 1) := by decide +kernel
theorem dX3_squaresAtMarked_32 : decode cX3_squaresAtMarked 32 = .ok (.lstore_n 2, 1) := by decide +kernel
theorem dX3_squaresAtMarked_33 : decode cX3_squaresAtMarked 33 = .ok (.iinc 4 1, 3) := by decide +kernel
theorem dX3_squaresAtMarked_36 : decode cX3_squaresAtMarked 36 = .ok (.goto (-31), 3) := by decide +kernel
theorem dX3_squaresAtMarked_39 : decode cX3_squaresAtMarked 39 = .ok (.lload_n 2, 1) := by decide +kernel
theorem dX3_squaresAtMarked_40 : decode cX3_squaresAtMarked 40 = .ok (.lreturn, 1) := by decide +kernel
set_option maxRecDepth 20000 in
theorem ggX3_isAllAt_X3_squaresAt : GoodIn wsX3_isAllAt wsX3_squaresAt := goodIn_r _ [5, 6, 11, 12] (by decide +kernel) (by decide +kernel)
set_option maxRecDepth 20000 in
theorem gX3_isAllAt_X3_squaresAt : GoodIn wsX3_isAllAt (wsV RX3 37 RX3 yX3_squaresAt wsX3_squaresAt) := goodIn_app (goodIn_of _ (by decide +kernel)) ggX3_isAllAt_X3_squaresAt
set_option maxRecDepth 20000 in
theorem ggX3_isAllAt_X3_squares : GoodIn wsX3_isAllAt wsX3_squares := goodIn_r _ [10, 1, 2, 3, 4, 5, 6, 11, 12] (by decide +kernel) (by decide +kernel)
set_option maxRecDepth 20000 in
theorem gX3_isAllAt_X3_squares : GoodIn wsX3_isAllAt (wsV RX3 45 RX3 yX3_squares wsX3_squares) := goodIn_app (goodIn_of _ (by decide +kernel)) ggX3_isAllAt_X3_squares
theorem dX3_isAllAt_0 : decode cX3_isAllAt 0 = .ok (.aload_n 0, 1) := by decide +kernel
theorem dX3_isAllAt_1 : decode cX3_isAllAt 1 = .ok (.iload_n 1, 1) := by decide +kernel
theorem dX3_isAllAt_2 : decode cX3_isAllAt 2 = .ok (.invokevirtual 37, 3) := by decide +kernel
theorem dX3_isAllAt_5 : decode cX3_isAllAt 5 = .ok (.lstore_n 2, 1) := by decide +kernel
theorem dX3_isAllAt_6 : decode cX3_isAllAt 6 = .ok (.lload_n 2, 1) := by decide +kernel
theorem dX3_isAllAt_7 : decode cX3_isAllAt 7 = .ok (.lconst 0, 1) := by decide +kernel
theorem dX3_isAllAt_8 : decode cX3_isAllAt 8 = .ok (.lcmp, 1) := by decide +kernel
theorem dX3_isAllAt_9 : decode cX3_isAllAt 9 = .ok (.ifCond .le 16, 3) := by decide +kernel
theorem dX3_isAllAt_12 : decode cX3_isAllAt 12 = .ok (.lload_n 2, 1) := by decide +kernel
theorem dX3_isAllAt_13 : decode cX3_isAllAt 13 = .ok (.aload_n 0, 1) := by decide +kernel
theorem dX3_isAllAt_14 : decode cX3_isAllAt 14 = .ok (.invokevirtual 45, 3) := by decide +kernel
theorem dX3_isAllAt_17 : decode cX3_isAllAt 17 = .ok (.lcmp, 1) := by decide +kernel
theorem dX3_isAllAt_18 : decode cX3_isAllAt 18 = .ok (.ifCond .ne 7, 3) := by decide +kernel
theorem dX3_isAllAt_21 : decode cX3_isAllAt 21 = .ok (.iconst 1, 1) := by decide +kernel
theorem dX3_isAllAt_22 : decode cX3_isAllAt 22 = .ok (.goto 4, 3) := by decide +kernel
theorem dX3_isAllAt_25 : decode cX3_isAllAt 25 = .ok (.iconst 0, 1) := by decide +kernel
theorem dX3_isAllAt_26 : decode cX3_isAllAt 26 = .ok (.ireturn, 1) := by decide +kernel
theorem dX3_isMultipleOf_0 : decode cX3_isMultipleOf 0 = .ok (.iconst 0, 1) := by decide +kernel
theorem dX3_isMultipleOf_1 : decode cX3_isMultipleOf 1 = .ok (.istore_n 2, 1) := by decide +kernel
theorem dX3_isMultipleOf_2 : decode cX3_isMultipleOf 2 = .ok (.iload_n 2, 1) := by decide +kernel
theorem dX3_isMultipleOf_3 : decode cX3_isMultipleOf 3 = .ok (.bipush 48, 2) := by decide +kernel
theorem dX3_isMultipleOf_5 : decode cX3_isMultipleOf 5 = .ok (.if_icmp .ge 20, 3) := by decide +kernel
theorem dX3_isMultipleOf_8 : decode cX3_isMultipleOf 8 = .ok (.aload_n 1, 1) := by decide +kernel
theorem dX3_isMultipleOf_9 : decode cX3_isMultipleOf 9 = .ok (.getfield 9, 3) := by decide +kernel
theorem dX3_isMultipleOf_12 : decode cX3_isMultipleOf 12 = .ok (.iload_n 2, 1) := by decide +kernel
theorem dX3_isMultipleOf_13 : decode cX3_isMultipleOf 13 = .ok (.laload, 1) := by decide +kernel
theorem dX3_isMultipleOf_14 : decode cX3_isMultipleOf 14 = .ok (.lconst 0, 1) := by decide +kernel
theorem dX3_isMultipleOf_15 : decode cX3_isMultipleOf 15 = .ok (.lcmp, 1) := by decide +kernel
theorem dX3_isMultipleOf_16 : decode cX3_isMultipleOf 16 = .ok (.ifCond .ne 9, 3) := by decide +kernel
theorem dX3_isMultipleOf_19 : decode cX3_isMultipleOf 19 = .ok (.iinc 2 1, 3) := by decide +kernel
theorem dX3_isMultipleOf_22 : decode cX3_isMultipleOf 22 = .ok (.goto (-20), 3) := by decide +kernel
theorem dX3_isMultipleOf_25 : decode cX3_isMultipleOf 25 = .ok (.iload_n 2, 1) := by decide +kernel
theorem dX3_isMultipleOf_26 : decode cX3_isMultipleOf 26 = .ok (.bipush 48, 2) := by decide +kernel
theorem dX3_isMultipleOf_28 : decode cX3_isMultipleOf 28 = .ok (.if_icmp .lt 5, 3) := by decide +kernel
theorem dX3_isMultipleOf_31 : decode cX3_isMultipleOf 31 = .ok (.iconst 0, 1) := by decide +kernel
theorem dX3_isMultipleOf_32 : decode cX3_isMultipleOf 32 = .ok (.ireturn, 1) := by decide +kernel
theorem dX3_isMultipleOf_33 : decode cX3_isMultipleOf 33 = .ok (.iconst 0, 1) := by decide +kernel
theorem dX3_isMultipleOf_34 : decode cX3_isMultipleOf 34 = .ok (.istore_n 3, 1) := by decide +kernel
theorem dX3_isMultipleOf_35 : decode cX3_isMultipleOf 35 = .ok (.iload_n 3, 1) := by decide +kernel
theorem dX3_isMultipleOf_36 : decode cX3_isMultipleOf 36 = .ok (.bipush 48, 2) := by decide +kernel
theorem dX3_isMultipleOf_38 : decode cX3_isMultipleOf 38 = .ok (.if_icmp .ge 41, 3) := by decide +kernel
theorem dX3_isMultipleOf_41 : decode cX3_isMultipleOf 41 = .ok (.aload_n 0, 1) := by decide +kernel
theorem dX3_isMultipleOf_42 : decode cX3_isMultipleOf 42 = .ok (.getfield 9, 3) := by decide +kernel
theorem dX3_isMultipleOf_45 : decode cX3_isMultipleOf 45 = .ok (.iload_n 3, 1) := by decide +kernel
theorem dX3_isMultipleOf_46 : decode cX3_isMultipleOf 46 = .ok (.laload, 1) := by decide +kernel
theorem dX3_isMultipleOf_47 : decode cX3_isMultipleOf 47 = .ok (.aload_n 1, 1) := by decide +kernel
theorem dX3_isMultipleOf_48 : decode cX3_isMultipleOf 48 = .ok (.getfield 9, 3) := by decide +kernel
theorem dX3_isMultipleOf_51 : decode cX3_isMultipleOf 51 = .ok (.iload_n 2, 1) := by decide +kernel
theorem dX3_isMultipleOf_52 : decode cX3_isMultipleOf 52 = .ok (.laload, 1) := by decide +kernel
theorem dX3_isMultipleOf_53 : decode cX3_isMultipleOf 53 = .ok (.lmul, 1) := by decide +kernel
theorem dX3_isMultipleOf_54 : decode cX3_isMultipleOf 54 = .ok (.aload_n 1, 1) := by decide +kernel
theorem dX3_isMultipleOf_55 : decode cX3_isMultipleOf 55 = .ok (.getfield 9, 3) := by decide +kernel
theorem dX3_isMultipleOf_58 : decode cX3_isMultipleOf 58 = .ok (.iload_n 3, 1) := by decide +kernel
theorem dX3_isMultipleOf_59 : decode cX3_isMultipleOf 59 = .ok (.laload, 1) := by decide +kernel
theorem dX3_isMultipleOf_60 : decode cX3_isMultipleOf 60 = .ok (.aload_n 0, 1) := by decide +kernel
theorem dX3_isMultipleOf_61 : decode cX3_isMultipleOf 61 = .ok (.getfield 9, 3) := by decide +kernel
theorem dX3_isMultipleOf_64 : decode cX3_isMultipleOf 64 = .ok (.iload_n 2, 1) := by decide +kernel
theorem dX3_isMultipleOf_65 : decode cX3_isMultipleOf 65 = .ok (.laload, 1) := by decide +kernel
theorem dX3_isMultipleOf_66 : decode cX3_isMultipleOf 66 = .ok (.lmul, 1) := by decide +kernel
theorem dX3_isMultipleOf_67 : decode cX3_isMultipleOf 67 = .ok (.lcmp, 1) := by decide +kernel
theorem dX3_isMultipleOf_68 : decode cX3_isMultipleOf 68 = .ok (.ifCond .eq 5, 3) := by decide +kernel
theorem dX3_isMultipleOf_71 : decode cX3_isMultipleOf 71 = .ok (.iconst 0, 1) := by decide +kernel
theorem dX3_isMultipleOf_72 : decode cX3_isMultipleOf 72 = .ok (.ireturn, 1) := by decide +kernel
theorem dX3_isMultipleOf_73 : decode cX3_isMultipleOf 73 = .ok (.iinc 3 1, 3) := by decide +kernel
theorem dX3_isMultipleOf_76 : decode cX3_isMultipleOf 76 = .ok (.goto (-41), 3) := by decide +kernel
theorem dX3_isMultipleOf_79 : decode cX3_isMultipleOf 79 = .ok (.iconst 1, 1) := by decide +kernel
theorem dX3_isMultipleOf_80 : decode cX3_isMultipleOf 80 = .ok (.ireturn, 1) := by decide +kernel
set_option maxRecDepth 20000 in
theorem ggX3_stepsLeft_X3_squares : GoodIn wsX3_stepsLeft wsX3_squares := goodIn_r _ [8, 9, 10, 11, 7, 12, 13, 14, 15] (by decide +kernel) (by decide +kernel)
set_option maxRecDepth 20000 in
theorem gX3_stepsLeft_X3_squares : GoodIn wsX3_stepsLeft (wsV RX3 45 RX3 yX3_squares wsX3_squares) := goodIn_app (goodIn_of _ (by decide +kernel)) ggX3_stepsLeft_X3_squares
theorem dX3_stepsLeft_0 : decode cX3_stepsLeft 0 = .ok (.aload_n 0, 1) := by decide +kernel
theorem dX3_stepsLeft_1 : decode cX3_stepsLeft 1 = .ok (.invokevirtual 45, 3) := by decide +kernel
theorem dX3_stepsLeft_4 : decode cX3_stepsLeft 4 = .ok (.lstore_n 2, 1) := by decide +kernel
theorem dX3_stepsLeft_5 : decode cX3_stepsLeft 5 = .ok (.iconst 0, 1) := by decide +kernel
theorem dX3_stepsLeft_6 : decode cX3_stepsLeft 6 = .ok (.istore 4, 2) := by decide +kernel
theorem dX3_stepsLeft_8 : decode cX3_stepsLeft 8 = .ok (.iload 4, 2) := by decide +kernel
theorem dX3_stepsLeft_10 : decode cX3_stepsLeft 10 = .ok (.bipush 60, 2) := by decide +kernel
theorem dX3_stepsLeft_12 : decode cX3_stepsLeft 12 = .ok (.aload_n 0, 1) := by decide +kernel
theorem dX3_stepsLeft_13 : decode cX3_stepsLeft 13 = .ok (.getfield 15, 3) := by decide +kernel
theorem dX3_stepsLeft_16 : decode cX3_stepsLeft 16 = .ok (.isub, 1) := by decide +kernel
theorem dX3_stepsLeft_17 : decode cX3_stepsLeft 17 = .ok (.if_icmp .ge 26, 3) := by decide +kernel
theorem dX3_stepsLeft_20 : decode cX3_stepsLeft 20 = .ok (.lload_n 2, 1) := by decide +kernel
theorem dX3_stepsLeft_21 : decode cX3_stepsLeft 21 = .ok (.aload_n 1, 1) := by decide +kernel
theorem dX3_stepsLeft_22 : decode cX3_stepsLeft 22 = .ok (.getfield 49, 3) := by decide +kernel
theorem dX3_stepsLeft_25 : decode cX3_stepsLeft 25 = .ok (.lcmp, 1) := by decide +kernel
theorem dX3_stepsLeft_26 : decode cX3_stepsLeft 26 = .ok (.ifCond .gt 17, 3) := by decide +kernel
theorem dX3_stepsLeft_29 : decode cX3_stepsLeft 29 = .ok (.lload_n 2, 1) := by decide +kernel
theorem dX3_stepsLeft_30 : decode cX3_stepsLeft 30 = .ok (.aload_n 1, 1) := by decide +kernel
theorem dX3_stepsLeft_31 : decode cX3_stepsLeft 31 = .ok (.getfield 53, 3) := by decide +kernel
theorem dX3_stepsLeft_34 : decode cX3_stepsLeft 34 = .ok (.i2l, 1) := by decide +kernel
theorem dX3_stepsLeft_35 : decode cX3_stepsLeft 35 = .ok (.lmul, 1) := by decide +kernel
theorem dX3_stepsLeft_36 : decode cX3_stepsLeft 36 = .ok (.lstore_n 2, 1) := by decide +kernel
theorem dX3_stepsLeft_37 : decode cX3_stepsLeft 37 = .ok (.iinc 4 1, 3) := by decide +kernel
theorem dX3_stepsLeft_40 : decode cX3_stepsLeft 40 = .ok (.goto (-32), 3) := by decide +kernel
theorem dX3_stepsLeft_43 : decode cX3_stepsLeft 43 = .ok (.iload 4, 2) := by decide +kernel
theorem dX3_stepsLeft_45 : decode cX3_stepsLeft 45 = .ok (.ireturn, 1) := by decide +kernel
set_option maxRecDepth 20000 in
theorem ggX3_doStep_X3_changeSigns : GoodIn wsX3_doStep wsX3_changeSigns := goodIn_r _ [8, 1, 9, 2, 10, 22, 23, 24, 25, 26, 27, 28, 29, 30] (by decide +kernel) (by decide +kernel)
set_option maxRecDepth 20000 in
theorem gX3_doStep_X3_changeSigns : GoodIn wsX3_doStep (wsV RX3 56 RX3 yX3_changeSigns wsX3_changeSigns) := goodIn_app (goodIn_of _ (by decide +kernel)) ggX3_doStep_X3_changeSigns
set_option maxRecDepth 20000 in
theorem ggX3_doStep_X3_turnAt : GoodIn wsX3_doStep wsX3_turnAt := goodIn_r _ [14, 10, 15, 16, 29, 30] (by decide +kernel) (by decide +kernel)
set_option maxRecDepth 20000 in
theorem gX3_doStep_X3_turnAt : GoodIn wsX3_doStep (wsV RX3 60 RX3 yX3_turnAt wsX3_turnAt) := goodIn_app (goodIn_of _ (by decide +kernel)) ggX3_doStep_X3_turnAt
set_option maxRecDepth 20000 in
theorem ggX3_doStep_X3_goThroughDoors : GoodIn wsX3_doStep wsX3_goThroughDoors := goodIn_r _ [20, 1, 21, 10, 22, 23, 24, 25, 26, 27, 28, 29, 30] (by decide +kernel) (by decide +kernel)
set_option maxRecDepth 20000 in
theorem gX3_doStep_X3_goThroughDoors : GoodIn wsX3_doStep (wsV RX3 64 RX3 yX3_goThroughDoors wsX3_goThroughDoors) := goodIn_app (goodIn_of _ (by decide +kernel)) ggX3_doStep_X3_goThroughDoors
theorem dX3_doStep_0 : decode cX3_doStep 0 = .ok (.aload_n 0, 1) := by decide +kernel
theorem dX3_doStep_1 : decode cX3_doStep 1 = .ok (.aload_n 1, 1) := by decide +kernel
theorem dX3_doStep_2 : decode cX3_doStep 2 = .ok (.invokevirtual 56, 3) := by decide +kernel
theorem dX3_doStep_5 : decode cX3_doStep 5 = .ok (.iconst 0, 1) := by decide +kernel
theorem dX3_doStep_6 : decode cX3_doStep 6 = .ok (.istore_n 2, 1) := by decide +kernel
theorem dX3_doStep_7 : decode cX3_doStep 7 = .ok (.iload_n 2, 1) := by decide +kernel
theorem dX3_doStep_8 : decode cX3_doStep 8 = .ok (.aload_n 1, 1) := by decide +kernel
theorem dX3_doStep_9 : decode cX3_doStep 9 = .ok (.getfield 25, 3) := by decide +kernel
theorem dX3_doStep_12 : decode cX3_doStep 12 = .ok (.if_icmp .ge 18, 3) := by decide +kernel
theorem dX3_doStep_15 : decode cX3_doStep 15 = .ok (.aload_n 0, 1) := by decide +kernel
theorem dX3_doStep_16 : decode cX3_doStep 16 = .ok (.iload_n 2, 1) := by decide +kernel
theorem dX3_doStep_17 : decode cX3_doStep 17 = .ok (.aload_n 1, 1) := by decide +kernel
theorem dX3_doStep_18 : decode cX3_doStep 18 = .ok (.getfield 30, 3) := by decide +kernel
theorem dX3_doStep_21 : decode cX3_doStep 21 = .ok (.invokevirtual 60, 3) := by decide +kernel
theorem dX3_doStep_24 : decode cX3_doStep 24 = .ok (.iinc 2 1, 3) := by decide +kernel
theorem dX3_doStep_27 : decode cX3_doStep 27 = .ok (.goto (-20), 3) := by decide +kernel
theorem dX3_doStep_30 : decode cX3_doStep 30 = .ok (.aload_n 0, 1) := by decide +kernel
theorem dX3_doStep_31 : decode cX3_doStep 31 = .ok (.aload_n 1, 1) := by decide +kernel
theorem dX3_doStep_32 : decode cX3_doStep 32 = .ok (.invokevirtual 64, 3) := by decide +kernel
theorem dX3_doStep_35 : decode cX3_doStep 35 = .ok (.aload_n 0, 1) := by decide +kernel
theorem dX3_doStep_36 : decode cX3_doStep 36 = .ok (.dup, 1) := by decide +kernel
theorem dX3_doStep_37 : decode cX3_doStep 37 = .ok (.getfield 15, 3) := by decide +kernel
theorem dX3_doStep_40 : decode cX3_doStep 40 = .ok (.iconst 1, 1) := by decide +kernel
theorem dX3_doStep_41 : decode cX3_doStep 41 = .ok (.iadd, 1) := by decide +kernel
theorem dX3_doStep_42 : decode cX3_doStep 42 = .ok (.putfield 15, 3) := by decide +kernel
theorem dX3_doStep_45 : decode cX3_doStep 45 = .ok (.return_, 1) := by decide +kernel
set_option maxRecDepth 20000 in
theorem ggX3_undoStep_X3_goThroughDoors : GoodIn wsX3_undoStep wsX3_goThroughDoors := goodIn_r _ [8, 1, 9, 10, 28, 29, 30, 31, 32, 33, 34, 35, 36] (by decide +kernel) (by decide +kernel)
set_option maxRecDepth 20000 in
theorem gX3_undoStep_X3_goThroughDoors : GoodIn wsX3_undoStep (wsV RX3 64 RX3 yX3_goThroughDoors wsX3_goThroughDoors) := goodIn_app (goodIn_of _ (by decide +kernel)) ggX3_undoStep_X3_goThroughDoors
set_option maxRecDepth 20000 in
theorem ggX3_undoStep_X3_turnAt : GoodIn wsX3_undoStep wsX3_turnAt := goodIn_r _ [14, 10, 15, 16, 35, 36] (by decide +kernel) (by decide +kernel)
set_option maxRecDepth 20000 in
theorem gX3_undoStep_X3_turnAt : GoodIn wsX3_undoStep (wsV RX3 60 RX3 yX3_turnAt wsX3_turnAt) := goodIn_app (goodIn_of _ (by decide +kernel)) ggX3_undoStep_X3_turnAt
set_option maxRecDepth 20000 in
theorem ggX3_undoStep_X3_lessenAt : GoodIn wsX3_undoStep wsX3_lessenAt := goodIn_r _ [20, 10, 15, 21, 22, 35, 36] (by decide +kernel) (by decide +kernel)
set_option maxRecDepth 20000 in
theorem gX3_undoStep_X3_lessenAt : GoodIn wsX3_undoStep (wsV RX3 67 RX3 yX3_lessenAt wsX3_lessenAt) := goodIn_app (goodIn_of _ (by decide +kernel)) ggX3_undoStep_X3_lessenAt
set_option maxRecDepth 20000 in
theorem ggX3_undoStep_X3_changeSigns : GoodIn wsX3_undoStep wsX3_changeSigns := goodIn_r _ [26, 1, 27, 2, 10, 28, 29, 30, 31, 32, 33, 34, 35, 36] (by decide +kernel) (by decide +kernel)
set_option maxRecDepth 20000 in
theorem gX3_undoStep_X3_changeSigns : GoodIn wsX3_undoStep (wsV RX3 56 RX3 yX3_changeSigns wsX3_changeSigns) := goodIn_app (goodIn_of _ (by decide +kernel)) ggX3_undoStep_X3_changeSigns
theorem dX3_undoStep_0 : decode cX3_undoStep 0 = .ok (.aload_n 0, 1) := by decide +kernel
theorem dX3_undoStep_1 : decode cX3_undoStep 1 = .ok (.aload_n 1, 1) := by decide +kernel
theorem dX3_undoStep_2 : decode cX3_undoStep 2 = .ok (.invokevirtual 64, 3) := by decide +kernel
theorem dX3_undoStep_5 : decode cX3_undoStep 5 = .ok (.iconst 0, 1) := by decide +kernel
theorem dX3_undoStep_6 : decode cX3_undoStep 6 = .ok (.istore_n 2, 1) := by decide +kernel
theorem dX3_undoStep_7 : decode cX3_undoStep 7 = .ok (.iload_n 2, 1) := by decide +kernel
theorem dX3_undoStep_8 : decode cX3_undoStep 8 = .ok (.aload_n 1, 1) := by decide +kernel
theorem dX3_undoStep_9 : decode cX3_undoStep 9 = .ok (.getfield 25, 3) := by decide +kernel
theorem dX3_undoStep_12 : decode cX3_undoStep 12 = .ok (.if_icmp .ge 27, 3) := by decide +kernel
theorem dX3_undoStep_15 : decode cX3_undoStep 15 = .ok (.aload_n 0, 1) := by decide +kernel
theorem dX3_undoStep_16 : decode cX3_undoStep 16 = .ok (.iload_n 2, 1) := by decide +kernel
theorem dX3_undoStep_17 : decode cX3_undoStep 17 = .ok (.aload_n 1, 1) := by decide +kernel
theorem dX3_undoStep_18 : decode cX3_undoStep 18 = .ok (.getfield 30, 3) := by decide +kernel
theorem dX3_undoStep_21 : decode cX3_undoStep 21 = .ok (.invokevirtual 60, 3) := by decide +kernel
theorem dX3_undoStep_24 : decode cX3_undoStep 24 = .ok (.aload_n 0, 1) := by decide +kernel
theorem dX3_undoStep_25 : decode cX3_undoStep 25 = .ok (.iload_n 2, 1) := by decide +kernel
theorem dX3_undoStep_26 : decode cX3_undoStep 26 = .ok (.aload_n 1, 1) := by decide +kernel
theorem dX3_undoStep_27 : decode cX3_undoStep 27 = .ok (.getfield 30, 3) := by decide +kernel
theorem dX3_undoStep_30 : decode cX3_undoStep 30 = .ok (.invokevirtual 67, 3) := by decide +kernel
theorem dX3_undoStep_33 : decode cX3_undoStep 33 = .ok (.iinc 2 1, 3) := by decide +kernel
theorem dX3_undoStep_36 : decode cX3_undoStep 36 = .ok (.goto (-29), 3) := by decide +kernel
theorem dX3_undoStep_39 : decode cX3_undoStep 39 = .ok (.aload_n 0, 1) := by decide +kernel
theorem dX3_undoStep_40 : decode cX3_undoStep 40 = .ok (.aload_n 1, 1) := by decide +kernel
theorem dX3_undoStep_41 : decode cX3_undoStep 41 = .ok (.invokevirtual 56, 3) := by decide +kernel
theorem dX3_undoStep_44 : decode cX3_undoStep 44 = .ok (.aload_n 0, 1) := by decide +kernel
theorem dX3_undoStep_45 : decode cX3_undoStep 45 = .ok (.dup, 1) := by decide +kernel
theorem dX3_undoStep_46 : decode cX3_undoStep 46 = .ok (.getfield 15, 3) := by decide +kernel
theorem dX3_undoStep_49 : decode cX3_undoStep 49 = .ok (.iconst 1, 1) := by decide +kernel
theorem dX3_undoStep_50 : decode cX3_undoStep 50 = .ok (.isub, 1) := by decide +kernel
theorem dX3_undoStep_51 : decode cX3_undoStep 51 = .ok (.putfield 15, 3) := by decide +kernel
theorem dX3_undoStep_54 : decode cX3_undoStep 54 = .ok (.return_, 1) := by decide +kernel
theorem dX3_changeSigns_0 : decode cX3_changeSigns 0 = .ok (.iconst 0, 1) := by decide +kernel
theorem dX3_changeSigns_1 : decode cX3_changeSigns 1 = .ok (.istore_n 2, 1) := by decide +kernel
theorem dX3_changeSigns_2 : decode cX3_changeSigns 2 = .ok (.iload_n 2, 1) := by decide +kernel
theorem dX3_changeSigns_3 : decode cX3_changeSigns 3 = .ok (.aload_n 1, 1) := by decide +kernel
theorem dX3_changeSigns_4 : decode cX3_changeSigns 4 = .ok (.getfield 25, 3) := by decide +kernel
theorem dX3_changeSigns_7 : decode cX3_changeSigns 7 = .ok (.if_icmp .ge 56, 3) := by decide +kernel
theorem dX3_changeSigns_10 : decode cX3_changeSigns 10 = .ok (.aload_n 1, 1) := by decide +kernel
theorem dX3_changeSigns_11 : decode cX3_changeSigns 11 = .ok (.getfield 41, 3) := by decide +kernel
theorem dX3_changeSigns_14 : decode cX3_changeSigns 14 = .ok (.iload_n 2, 1) := by decide +kernel
theorem dX3_changeSigns_15 : decode cX3_changeSigns 15 = .ok (.baload, 1) := by decide +kernel
theorem dX3_changeSigns_16 : decode cX3_changeSigns 16 = .ok (.ifCond .eq 41, 3) := by decide +kernel
theorem dX3_changeSigns_19 : decode cX3_changeSigns 19 = .ok (.iconst 0, 1) := by decide +kernel
theorem dX3_changeSigns_20 : decode cX3_changeSigns 20 = .ok (.istore_n 3, 1) := by decide +kernel
theorem dX3_changeSigns_21 : decode cX3_changeSigns 21 = .ok (.iload_n 3, 1) := by decide +kernel
theorem dX3_changeSigns_22 : decode cX3_changeSigns 22 = .ok (.aload_n 1, 1) := by decide +kernel
theorem dX3_changeSigns_23 : decode cX3_changeSigns 23 = .ok (.getfield 30, 3) := by decide +kernel
theorem dX3_changeSigns_26 : decode cX3_changeSigns 26 = .ok (.if_icmp .ge 31, 3) := by decide +kernel
theorem dX3_changeSigns_29 : decode cX3_changeSigns 29 = .ok (.iload_n 2, 1) := by decide +kernel
theorem dX3_changeSigns_30 : decode cX3_changeSigns 30 = .ok (.iconst 4, 1) := by decide +kernel
theorem dX3_changeSigns_31 : decode cX3_changeSigns 31 = .ok (.imul, 1) := by decide +kernel
theorem dX3_changeSigns_32 : decode cX3_changeSigns 32 = .ok (.iload_n 3, 1) := by decide +kernel
theorem dX3_changeSigns_33 : decode cX3_changeSigns 33 = .ok (.iadd, 1) := by decide +kernel
theorem dX3_changeSigns_34 : decode cX3_changeSigns 34 = .ok (.istore 4, 2) := by decide +kernel
theorem dX3_changeSigns_36 : decode cX3_changeSigns 36 = .ok (.aload_n 0, 1) := by decide +kernel
theorem dX3_changeSigns_37 : decode cX3_changeSigns 37 = .ok (.getfield 9, 3) := by decide +kernel
theorem dX3_changeSigns_40 : decode cX3_changeSigns 40 = .ok (.iload 4, 2) := by decide +kernel
theorem dX3_changeSigns_42 : decode cX3_changeSigns 42 = .ok (.aload_n 0, 1) := by decide +kernel
theorem dX3_changeSigns_43 : decode cX3_changeSigns 43 = .ok (.getfield 9, 3) := by decide +kernel
theorem dX3_changeSigns_46 : decode cX3_changeSigns 46 = .ok (.iload 4, 2) := by decide +kernel
theorem dX3_changeSigns_48 : decode cX3_changeSigns 48 = .ok (.laload, 1) := by decide +kernel
theorem dX3_changeSigns_49 : decode cX3_changeSigns 49 = .ok (.lneg, 1) := by decide +kernel
theorem dX3_changeSigns_50 : decode cX3_changeSigns 50 = .ok (.lastore, 1) := by decide +kernel
theorem dX3_changeSigns_51 : decode cX3_changeSigns 51 = .ok (.iinc 3 1, 3) := by decide +kernel
theorem dX3_changeSigns_54 : decode cX3_changeSigns 54 = .ok (.goto (-33), 3) := by decide +kernel
theorem dX3_changeSigns_57 : decode cX3_changeSigns 57 = .ok (.iinc 2 1, 3) := by decide +kernel
theorem dX3_changeSigns_60 : decode cX3_changeSigns 60 = .ok (.goto (-58), 3) := by decide +kernel
theorem dX3_changeSigns_63 : decode cX3_changeSigns 63 = .ok (.return_, 1) := by decide +kernel
theorem dX3_turnAt_0 : decode cX3_turnAt 0 = .ok (.iload_n 1, 1) := by decide +kernel
theorem dX3_turnAt_1 : decode cX3_turnAt 1 = .ok (.iconst 4, 1) := by decide +kernel
theorem dX3_turnAt_2 : decode cX3_turnAt 2 = .ok (.imul, 1) := by decide +kernel
theorem dX3_turnAt_3 : decode cX3_turnAt 3 = .ok (.istore_n 3, 1) := by decide +kernel
theorem dX3_turnAt_4 : decode cX3_turnAt 4 = .ok (.iload_n 2, 1) := by decide +kernel
theorem dX3_turnAt_5 : decode cX3_turnAt 5 = .ok (.iconst 2, 1) := by decide +kernel
theorem dX3_turnAt_6 : decode cX3_turnAt 6 = .ok (.if_icmp .ne 46, 3) := by decide +kernel
theorem dX3_turnAt_9 : decode cX3_turnAt 9 = .ok (.aload_n 0, 1) := by decide +kernel
theorem dX3_turnAt_10 : decode cX3_turnAt 10 = .ok (.getfield 9, 3) := by decide +kernel
theorem dX3_turnAt_13 : decode cX3_turnAt 13 = .ok (.iload_n 3, 1) := by decide +kernel
theorem dX3_turnAt_14 : decode cX3_turnAt 14 = .ok (.laload, 1) := by decide +kernel
theorem dX3_turnAt_15 : decode cX3_turnAt 15 = .ok (.lstore 4, 2) := by decide +kernel
theorem dX3_turnAt_17 : decode cX3_turnAt 17 = .ok (.aload_n 0, 1) := by decide +kernel
theorem dX3_turnAt_18 : decode cX3_turnAt 18 = .ok (.getfield 9, 3) := by decide +kernel
theorem dX3_turnAt_21 : decode cX3_turnAt 21 = .ok (.iload_n 3, 1) := by decide +kernel
theorem dX3_turnAt_22 : decode cX3_turnAt 22 = .ok (.iconst 1, 1) := by decide +kernel
theorem dX3_turnAt_23 : decode cX3_turnAt 23 = .ok (.iadd, 1) := by decide +kernel
theorem dX3_turnAt_24 : decode cX3_turnAt 24 = .ok (.laload, 1) := by decide +kernel
theorem dX3_turnAt_25 : decode cX3_turnAt 25 = .ok (.lstore 6, 2) := by decide +kernel
theorem dX3_turnAt_27 : decode cX3_turnAt 27 = .ok (.aload_n 0, 1) := by decide +kernel
theorem dX3_turnAt_28 : decode cX3_turnAt 28 = .ok (.getfield 9, 3) := by decide +kernel
theorem dX3_turnAt_31 : decode cX3_turnAt 31 = .ok (.iload_n 3, 1) := by decide +kernel
theorem dX3_turnAt_32 : decode cX3_turnAt 32 = .ok (.lload 4, 2) := by decide +kernel
theorem dX3_turnAt_34 : decode cX3_turnAt 34 = .ok (.lload 6, 2) := by decide +kernel
theorem dX3_turnAt_36 : decode cX3_turnAt 36 = .ok (.ladd, 1) := by decide +kernel
theorem dX3_turnAt_37 : decode cX3_turnAt 37 = .ok (.lastore, 1) := by decide +kernel
theorem dX3_turnAt_38 : decode cX3_turnAt 38 = .ok (.aload_n 0, 1) := by decide +kernel
theorem dX3_turnAt_39 : decode cX3_turnAt 39 = .ok (.getfield 9, 3) := by decide +kernel
theorem dX3_turnAt_42 : decode cX3_turnAt 42 = .ok (.iload_n 3, 1) := by decide +kernel
theorem dX3_turnAt_43 : decode cX3_turnAt 43 = .ok (.iconst 1, 1) := by decide +kernel
theorem dX3_turnAt_44 : decode cX3_turnAt 44 = .ok (.iadd, 1) := by decide +kernel
theorem dX3_turnAt_45 : decode cX3_turnAt 45 = .ok (.lload 4, 2) := by decide +kernel
theorem dX3_turnAt_47 : decode cX3_turnAt 47 = .ok (.lload 6, 2) := by decide +kernel
theorem dX3_turnAt_49 : decode cX3_turnAt 49 = .ok (.lsub, 1) := by decide +kernel
theorem dX3_turnAt_50 : decode cX3_turnAt 50 = .ok (.lastore, 1) := by decide +kernel
theorem dX3_turnAt_51 : decode cX3_turnAt 51 = .ok (.return_, 1) := by decide +kernel
theorem dX3_turnAt_52 : decode cX3_turnAt 52 = .ok (.lconst 0, 1) := by decide +kernel
theorem dX3_turnAt_53 : decode cX3_turnAt 53 = .ok (.lstore 4, 2) := by decide +kernel
theorem dX3_turnAt_55 : decode cX3_turnAt 55 = .ok (.iload_n 3, 1) := by decide +kernel
theorem dX3_turnAt_56 : decode cX3_turnAt 56 = .ok (.istore 6, 2) := by decide +kernel
theorem dX3_turnAt_58 : decode cX3_turnAt 58 = .ok (.iload 6, 2) := by decide +kernel
theorem dX3_turnAt_60 : decode cX3_turnAt 60 = .ok (.iload_n 3, 1) := by decide +kernel
theorem dX3_turnAt_61 : decode cX3_turnAt 61 = .ok (.iload_n 2, 1) := by decide +kernel
theorem dX3_turnAt_62 : decode cX3_turnAt 62 = .ok (.iadd, 1) := by decide +kernel
theorem dX3_turnAt_63 : decode cX3_turnAt 63 = .ok (.if_icmp .ge 21, 3) := by decide +kernel
theorem dX3_turnAt_66 : decode cX3_turnAt 66 = .ok (.lload 4, 2) := by decide +kernel
theorem dX3_turnAt_68 : decode cX3_turnAt 68 = .ok (.aload_n 0, 1) := by decide +kernel
theorem dX3_turnAt_69 : decode cX3_turnAt 69 = .ok (.getfield 9, 3) := by decide +kernel
theorem dX3_turnAt_72 : decode cX3_turnAt 72 = .ok (.iload 6, 2) := by decide +kernel
theorem dX3_turnAt_74 : decode cX3_turnAt 74 = .ok (.laload, 1) := by decide +kernel
theorem dX3_turnAt_75 : decode cX3_turnAt 75 = .ok (.ladd, 1) := by decide +kernel
theorem dX3_turnAt_76 : decode cX3_turnAt 76 = .ok (.lstore 4, 2) := by decide +kernel
theorem dX3_turnAt_78 : decode cX3_turnAt 78 = .ok (.iinc 6 1, 3) := by decide +kernel
theorem dX3_turnAt_81 : decode cX3_turnAt 81 = .ok (.goto (-23), 3) := by decide +kernel
theorem dX3_turnAt_84 : decode cX3_turnAt 84 = .ok (.iload_n 3, 1) := by decide +kernel
theorem dX3_turnAt_85 : decode cX3_turnAt 85 = .ok (.istore 6, 2) := by decide +kernel
theorem dX3_turnAt_87 : decode cX3_turnAt 87 = .ok (.iload 6, 2) := by decide +kernel
theorem dX3_turnAt_89 : decode cX3_turnAt 89 = .ok (.iload_n 3, 1) := by decide +kernel
theorem dX3_turnAt_90 : decode cX3_turnAt 90 = .ok (.iload_n 2, 1) := by decide +kernel
theorem dX3_turnAt_91 : decode cX3_turnAt 91 = .ok (.iadd, 1) := by decide +kernel
theorem dX3_turnAt_92 : decode cX3_turnAt 92 = .ok (.if_icmp .ge 56, 3) := by decide +kernel
theorem dX3_turnAt_95 : decode cX3_turnAt 95 = .ok (.aload_n 0, 1) := by decide +kernel
theorem dX3_turnAt_96 : decode cX3_turnAt 96 = .ok (.getfield 9, 3) := by decide +kernel
theorem dX3_turnAt_99 : decode cX3_turnAt 99 = .ok (.iload 6, 2) := by decide +kernel
theorem dX3_turnAt_101 : decode cX3_turnAt 101 = .ok (.iload_n 2, 1) := by decide +kernel
theorem dX3_turnAt_102 : decode cX3_turnAt 102 = .ok (.iconst 3, 1) := by decide +kernel
theorem dX3_turnAt_103 : decode cX3_turnAt 103 = .ok (.if_icmp .ne 24, 3) := by decide +kernel
theorem dX3_turnAt_106 : decode cX3_turnAt 106 = .ok (.ldc2_w 70, 3) := by decide +kernel
theorem dX3_turnAt_109 : decode cX3_turnAt 109 = .ok (.lload 4, 2) := by decide +kernel
theorem dX3_turnAt_111 : decode cX3_turnAt 111 = .ok (.lmul, 1) := by decide +kernel
theorem dX3_turnAt_112 : decode cX3_turnAt 112 = .ok (.ldc2_w 72, 3) := by decide +kernel
theorem dX3_turnAt_115 : decode cX3_turnAt 115 = .ok (.aload_n 0, 1) := by decide +kernel
theorem dX3_turnAt_116 : decode cX3_turnAt 116 = .ok (.getfield 9, 3) := by decide +kernel
theorem dX3_turnAt_119 : decode cX3_turnAt 119 = .ok (.iload 6, 2) := by decide +kernel
theorem dX3_turnAt_121 : decode cX3_turnAt 121 = .ok (.laload, 1) := by decide +kernel
theorem dX3_turnAt_122 : decode cX3_turnAt 122 = .ok (.lmul, 1) := by decide +kernel
theorem dX3_turnAt_123 : decode cX3_turnAt 123 = .ok (.lsub, 1) := by decide +kernel
theorem dX3_turnAt_124 : decode cX3_turnAt 124 = .ok (.goto 17, 3) := by decide +kernel
theorem dX3_turnAt_127 : decode cX3_turnAt 127 = .ok (.lload 4, 2) := by decide +kernel
theorem dX3_turnAt_129 : decode cX3_turnAt 129 = .ok (.ldc2_w 70, 3) := by decide +kernel
theorem dX3_turnAt_132 : decode cX3_turnAt 132 = .ok (.aload_n 0, 1) := by decide +kernel
theorem dX3_turnAt_133 : decode cX3_turnAt 133 = .ok (.getfield 9, 3) := by decide +kernel
theorem dX3_turnAt_136 : decode cX3_turnAt 136 = .ok (.iload 6, 2) := by decide +kernel
theorem dX3_turnAt_138 : decode cX3_turnAt 138 = .ok (.laload, 1) := by decide +kernel
theorem dX3_turnAt_139 : decode cX3_turnAt 139 = .ok (.lmul, 1) := by decide +kernel
theorem dX3_turnAt_140 : decode cX3_turnAt 140 = .ok (.lsub, 1) := by decide +kernel
theorem dX3_turnAt_141 : decode cX3_turnAt 141 = .ok (.lastore, 1) := by decide +kernel
theorem dX3_turnAt_142 : decode cX3_turnAt 142 = .ok (.iinc 6 1, 3) := by decide +kernel
theorem dX3_turnAt_145 : decode cX3_turnAt 145 = .ok (.goto (-58), 3) := by decide +kernel
theorem dX3_turnAt_148 : decode cX3_turnAt 148 = .ok (.return_, 1) := by decide +kernel
theorem dX3_lessenAt_0 : decode cX3_lessenAt 0 = .ok (.iload_n 1, 1) := by decide +kernel
theorem dX3_lessenAt_1 : decode cX3_lessenAt 1 = .ok (.iconst 4, 1) := by decide +kernel
theorem dX3_lessenAt_2 : decode cX3_lessenAt 2 = .ok (.imul, 1) := by decide +kernel
theorem dX3_lessenAt_3 : decode cX3_lessenAt 3 = .ok (.istore_n 3, 1) := by decide +kernel
theorem dX3_lessenAt_4 : decode cX3_lessenAt 4 = .ok (.iload_n 3, 1) := by decide +kernel
theorem dX3_lessenAt_5 : decode cX3_lessenAt 5 = .ok (.istore 4, 2) := by decide +kernel
theorem dX3_lessenAt_7 : decode cX3_lessenAt 7 = .ok (.iload 4, 2) := by decide +kernel
theorem dX3_lessenAt_9 : decode cX3_lessenAt 9 = .ok (.iload_n 3, 1) := by decide +kernel
theorem dX3_lessenAt_10 : decode cX3_lessenAt 10 = .ok (.iload_n 2, 1) := by decide +kernel
theorem dX3_lessenAt_11 : decode cX3_lessenAt 11 = .ok (.iadd, 1) := by decide +kernel
theorem dX3_lessenAt_12 : decode cX3_lessenAt 12 = .ok (.if_icmp .ge 65, 3) := by decide +kernel
theorem dX3_lessenAt_15 : decode cX3_lessenAt 15 = .ok (.aload_n 0, 1) := by decide +kernel
theorem dX3_lessenAt_16 : decode cX3_lessenAt 16 = .ok (.getfield 9, 3) := by decide +kernel
theorem dX3_lessenAt_19 : decode cX3_lessenAt 19 = .ok (.iload 4, 2) := by decide +kernel
theorem dX3_lessenAt_21 : decode cX3_lessenAt 21 = .ok (.iload_n 2, 1) := by decide +kernel
theorem dX3_lessenAt_22 : decode cX3_lessenAt 22 = .ok (.iconst 2, 1) := by decide +kernel
theorem dX3_lessenAt_23 : decode cX3_lessenAt 23 = .ok (.if_icmp .ne 17, 3) := by decide +kernel
theorem dX3_lessenAt_26 : decode cX3_lessenAt 26 = .ok (.aload_n 0, 1) := by decide +kernel
theorem dX3_lessenAt_27 : decode cX3_lessenAt 27 = .ok (.getfield 9, 3) := by decide +kernel
theorem dX3_lessenAt_30 : decode cX3_lessenAt 30 = .ok (.iload 4, 2) := by decide +kernel
theorem dX3_lessenAt_32 : decode cX3_lessenAt 32 = .ok (.laload, 1) := by decide +kernel
theorem dX3_lessenAt_33 : decode cX3_lessenAt 33 = .ok (.ldc2_w 70, 3) := by decide +kernel
theorem dX3_lessenAt_36 : decode cX3_lessenAt 36 = .ok (.ldiv, 1) := by decide +kernel
theorem dX3_lessenAt_37 : decode cX3_lessenAt 37 = .ok (.goto 33, 3) := by decide +kernel
theorem dX3_lessenAt_40 : decode cX3_lessenAt 40 = .ok (.iload_n 2, 1) := by decide +kernel
theorem dX3_lessenAt_41 : decode cX3_lessenAt 41 = .ok (.iconst 3, 1) := by decide +kernel
theorem dX3_lessenAt_42 : decode cX3_lessenAt 42 = .ok (.if_icmp .ne 17, 3) := by decide +kernel
theorem dX3_lessenAt_45 : decode cX3_lessenAt 45 = .ok (.aload_n 0, 1) := by decide +kernel
theorem dX3_lessenAt_46 : decode cX3_lessenAt 46 = .ok (.getfield 9, 3) := by decide +kernel
theorem dX3_lessenAt_49 : decode cX3_lessenAt 49 = .ok (.iload 4, 2) := by decide +kernel
theorem dX3_lessenAt_51 : decode cX3_lessenAt 51 = .ok (.laload, 1) := by decide +kernel
theorem dX3_lessenAt_52 : decode cX3_lessenAt 52 = .ok (.ldc2_w 74, 3) := by decide +kernel
theorem dX3_lessenAt_55 : decode cX3_lessenAt 55 = .ok (.ldiv, 1) := by decide +kernel
theorem dX3_lessenAt_56 : decode cX3_lessenAt 56 = .ok (.goto 14, 3) := by decide +kernel
theorem dX3_lessenAt_59 : decode cX3_lessenAt 59 = .ok (.aload_n 0, 1) := by decide +kernel
theorem dX3_lessenAt_60 : decode cX3_lessenAt 60 = .ok (.getfield 9, 3) := by decide +kernel
theorem dX3_lessenAt_63 : decode cX3_lessenAt 63 = .ok (.iload 4, 2) := by decide +kernel
theorem dX3_lessenAt_65 : decode cX3_lessenAt 65 = .ok (.laload, 1) := by decide +kernel
theorem dX3_lessenAt_66 : decode cX3_lessenAt 66 = .ok (.ldc2_w 76, 3) := by decide +kernel
theorem dX3_lessenAt_69 : decode cX3_lessenAt 69 = .ok (.ldiv, 1) := by decide +kernel
theorem dX3_lessenAt_70 : decode cX3_lessenAt 70 = .ok (.lastore, 1) := by decide +kernel
theorem dX3_lessenAt_71 : decode cX3_lessenAt 71 = .ok (.iinc 4 1, 3) := by decide +kernel
theorem dX3_lessenAt_74 : decode cX3_lessenAt 74 = .ok (.goto (-67), 3) := by decide +kernel
theorem dX3_lessenAt_77 : decode cX3_lessenAt 77 = .ok (.return_, 1) := by decide +kernel
theorem dX3_goThroughDoors_0 : decode cX3_goThroughDoors 0 = .ok (.iconst 0, 1) := by decide +kernel
theorem dX3_goThroughDoors_1 : decode cX3_goThroughDoors 1 = .ok (.istore_n 2, 1) := by decide +kernel
theorem dX3_goThroughDoors_2 : decode cX3_goThroughDoors 2 = .ok (.iload_n 2, 1) := by decide +kernel
theorem dX3_goThroughDoors_3 : decode cX3_goThroughDoors 3 = .ok (.aload_n 1, 1) := by decide +kernel
theorem dX3_goThroughDoors_4 : decode cX3_goThroughDoors 4 = .ok (.getfield 25, 3) := by decide +kernel
theorem dX3_goThroughDoors_7 : decode cX3_goThroughDoors 7 = .ok (.iconst 4, 1) := by decide +kernel
theorem dX3_goThroughDoors_8 : decode cX3_goThroughDoors 8 = .ok (.imul, 1) := by decide +kernel
theorem dX3_goThroughDoors_9 : decode cX3_goThroughDoors 9 = .ok (.if_icmp .ge 49, 3) := by decide +kernel
theorem dX3_goThroughDoors_12 : decode cX3_goThroughDoors 12 = .ok (.aload_n 1, 1) := by decide +kernel
theorem dX3_goThroughDoors_13 : decode cX3_goThroughDoors 13 = .ok (.getfield 78, 3) := by decide +kernel
theorem dX3_goThroughDoors_16 : decode cX3_goThroughDoors 16 = .ok (.iload_n 2, 1) := by decide +kernel
theorem dX3_goThroughDoors_17 : decode cX3_goThroughDoors 17 = .ok (.iaload, 1) := by decide +kernel
theorem dX3_goThroughDoors_18 : decode cX3_goThroughDoors 18 = .ok (.istore_n 3, 1) := by decide +kernel
theorem dX3_goThroughDoors_19 : decode cX3_goThroughDoors 19 = .ok (.iload_n 2, 1) := by decide +kernel
theorem dX3_goThroughDoors_20 : decode cX3_goThroughDoors 20 = .ok (.iload_n 3, 1) := by decide +kernel
theorem dX3_goThroughDoors_21 : decode cX3_goThroughDoors 21 = .ok (.if_icmp .ge 31, 3) := by decide +kernel
theorem dX3_goThroughDoors_24 : decode cX3_goThroughDoors 24 = .ok (.aload_n 0, 1) := by decide +kernel
theorem dX3_goThroughDoors_25 : decode cX3_goThroughDoors 25 = .ok (.getfield 9, 3) := by decide +kernel
theorem dX3_goThroughDoors_28 : decode cX3_goThroughDoors 28 = .ok (.iload_n 2, 1) := by decide +kernel
theorem dX3_goThroughDoors_29 : decode cX3_goThroughDoors 29 = .ok (.laload, 1) := by decide +kernel
theorem dX3_goThroughDoors_30 : decode cX3_goThroughDoors 30 = .ok (.lstore 4, 2) := by decide +kernel
theorem dX3_goThroughDoors_32 : decode cX3_goThroughDoors 32 = .ok (.aload_n 0, 1) := by decide +kernel
theorem dX3_goThroughDoors_33 : decode cX3_goThroughDoors 33 = .ok (.getfield 9, 3) := by decide +kernel
theorem dX3_goThroughDoors_36 : decode cX3_goThroughDoors 36 = .ok (.iload_n 2, 1) := by decide +kernel
theorem dX3_goThroughDoors_37 : decode cX3_goThroughDoors 37 = .ok (.aload_n 0, 1) := by decide +kernel
theorem dX3_goThroughDoors_38 : decode cX3_goThroughDoors 38 = .ok (.getfield 9, 3) := by decide +kernel
theorem dX3_goThroughDoors_41 : decode cX3_goThroughDoors 41 = .ok (.iload_n 3, 1) := by decide +kernel
theorem dX3_goThroughDoors_42 : decode cX3_goThroughDoors 42 = .ok (.laload, 1) := by decide +kernel
theorem dX3_goThroughDoors_43 : decode cX3_goThroughDoors 43 = .ok (.lastore, 1) := by decide +kernel
theorem dX3_goThroughDoors_44 : decode cX3_goThroughDoors 44 = .ok (.aload_n 0, 1) := by decide +kernel
theorem dX3_goThroughDoors_45 : decode cX3_goThroughDoors 45 = .ok (.getfield 9, 3) := by decide +kernel
theorem dX3_goThroughDoors_48 : decode cX3_goThroughDoors 48 = .ok (.iload_n 3, 1) := by decide +kernel
theorem dX3_goThroughDoors_49 : decode cX3_goThroughDoors 49 = .ok (.lload 4, 2) := by decide +kernel
theorem dX3_goThroughDoors_51 : decode cX3_goThroughDoors 51 = .ok (.lastore, 1) := by decide +kernel
theorem dX3_goThroughDoors_52 : decode cX3_goThroughDoors 52 = .ok (.iinc 2 1, 3) := by decide +kernel
theorem dX3_goThroughDoors_55 : decode cX3_goThroughDoors 55 = .ok (.goto (-53), 3) := by decide +kernel
theorem dX3_goThroughDoors_58 : decode cX3_goThroughDoors 58 = .ok (.return_, 1) := by decide +kernel
set_option maxRecDepth 20000 in
theorem ggX4_init_X3_init : GoodIn wsX4_init wsX3_init := goodIn_r _ [19, 20, 2, 3, 21, 22, 23, 37, 38] (by decide +kernel) (by decide +kernel)
set_option maxRecDepth 20000 in
theorem gX4_init_X3_init_n23 : GoodIn wsX4_init (wsX3_init) := ggX4_init_X3_init
set_option maxRecDepth 20000 in
theorem ggX4_init_X0_init : GoodIn wsX4_init wsX0_init := goodIn_r _ [25, 26, 2, 3, 27, 28, 21, 29, 30, 39, 40, 41] (by decide +kernel) (by decide +kernel)
set_option maxRecDepth 20000 in
theorem gX4_init_X0_init_n30 : GoodIn wsX4_init (wsX0_init) := ggX4_init_X0_init
theorem dX4_init_0 : decode cX4_init 0 = .ok (.aload_n 0, 1) := by decide +kernel
theorem dX4_init_1 : decode cX4_init 1 = .ok (.invokespecial 3, 3) := by decide +kernel
theorem dX4_init_4 : decode cX4_init 4 = .ok (.aload_n 0, 1) := by decide +kernel
theorem dX4_init_5 : decode cX4_init 5 = .ok (.bipush 6, 2) := by decide +kernel
theorem dX4_init_7 : decode cX4_init 7 = .ok (.anewarray 9, 3) := by decide +kernel
theorem dX4_init_10 : decode cX4_init 10 = .ok (.putfield 11, 3) := by decide +kernel
theorem dX4_init_13 : decode cX4_init 13 = .ok (.aload_n 0, 1) := by decide +kernel
theorem dX4_init_14 : decode cX4_init 14 = .ok (.bipush 12, 2) := by decide +kernel
theorem dX4_init_16 : decode cX4_init 16 = .ok (.anewarray 15, 3) := by decide +kernel
theorem dX4_init_19 : decode cX4_init 19 = .ok (.putfield 17, 3) := by decide +kernel
theorem dX4_init_22 : decode cX4_init 22 = .ok (.aload_n 0, 1) := by decide +kernel
theorem dX4_init_23 : decode cX4_init 23 = .ok (.new 21, 3) := by decide +kernel
theorem dX4_init_26 : decode cX4_init 26 = .ok (.dup, 1) := by decide +kernel
theorem dX4_init_27 : decode cX4_init 27 = .ok (.invokespecial 23, 3) := by decide +kernel
theorem dX4_init_30 : decode cX4_init 30 = .ok (.putfield 24, 3) := by decide +kernel
theorem dX4_init_33 : decode cX4_init 33 = .ok (.aload_n 0, 1) := by decide +kernel
theorem dX4_init_34 : decode cX4_init 34 = .ok (.new 28, 3) := by decide +kernel
theorem dX4_init_37 : decode cX4_init 37 = .ok (.dup, 1) := by decide +kernel
theorem dX4_init_38 : decode cX4_init 38 = .ok (.invokespecial 30, 3) := by decide +kernel
theorem dX4_init_41 : decode cX4_init 41 = .ok (.putfield 31, 3) := by decide +kernel
theorem dX4_init_44 : decode cX4_init 44 = .ok (.aload_n 0, 1) := by decide +kernel
theorem dX4_init_45 : decode cX4_init 45 = .ok (.iconst 0, 1) := by decide +kernel
theorem dX4_init_46 : decode cX4_init 46 = .ok (.putfield 35, 3) := by decide +kernel
theorem dX4_init_49 : decode cX4_init 49 = .ok (.aload_n 0, 1) := by decide +kernel
theorem dX4_init_50 : decode cX4_init 50 = .ok (.iconst 0, 1) := by decide +kernel
theorem dX4_init_51 : decode cX4_init 51 = .ok (.putfield 39, 3) := by decide +kernel
theorem dX4_init_54 : decode cX4_init 54 = .ok (.return_, 1) := by decide +kernel
set_option maxRecDepth 20000 in
theorem ggX4_net_X1_init : GoodIn wsX4_net wsX1_init := goodIn_r _ [8, 9, 10, 11, 12, 13, 14, 15, 16, 17, 18, 19, 20, 21, 22, 23, 30, 31, 32, 33, 34, 35, 36] (by decide +kernel) (by decide +kernel)
set_option maxRecDepth 20000 in
theorem gX4_net_X1_init : GoodIn wsX4_net (wsX1_init) := ggX4_net_X1_init
theorem dX4_net_0 : decode cX4_net 0 = .ok (.iload_n 1, 1) := by decide +kernel
theorem dX4_net_1 : decode cX4_net 1 = .ok (.iconst 1, 1) := by decide +kernel
theorem dX4_net_2 : decode cX4_net 2 = .ok (.if_icmp .lt 23, 3) := by decide +kernel
theorem dX4_net_5 : decode cX4_net 5 = .ok (.iload_n 1, 1) := by decide +kernel
theorem dX4_net_6 : decode cX4_net 6 = .ok (.bipush 12, 2) := by decide +kernel
theorem dX4_net_8 : decode cX4_net 8 = .ok (.if_icmp .gt 17, 3) := by decide +kernel
theorem dX4_net_11 : decode cX4_net 11 = .ok (.iload_n 2, 1) := by decide +kernel
theorem dX4_net_12 : decode cX4_net 12 = .ok (.iconst 2, 1) := by decide +kernel
theorem dX4_net_13 : decode cX4_net 13 = .ok (.if_icmp .lt 12, 3) := by decide +kernel
theorem dX4_net_16 : decode cX4_net 16 = .ok (.iload_n 2, 1) := by decide +kernel
theorem dX4_net_17 : decode cX4_net 17 = .ok (.iconst 4, 1) := by decide +kernel
theorem dX4_net_18 : decode cX4_net 18 = .ok (.if_icmp .gt 7, 3) := by decide +kernel
theorem dX4_net_21 : decode cX4_net 21 = .ok (.iconst 1, 1) := by decide +kernel
theorem dX4_net_22 : decode cX4_net 22 = .ok (.goto 4, 3) := by decide +kernel
theorem dX4_net_25 : decode cX4_net 25 = .ok (.iconst 0, 1) := by decide +kernel
theorem dX4_net_26 : decode cX4_net 26 = .ok (.istore_n 3, 1) := by decide +kernel
theorem dX4_net_27 : decode cX4_net 27 = .ok (.iload_n 3, 1) := by decide +kernel
theorem dX4_net_28 : decode cX4_net 28 = .ok (.ifCond .eq 12, 3) := by decide +kernel
theorem dX4_net_31 : decode cX4_net 31 = .ok (.aload_n 0, 1) := by decide +kernel
theorem dX4_net_32 : decode cX4_net 32 = .ok (.getfield 35, 3) := by decide +kernel
theorem dX4_net_35 : decode cX4_net 35 = .ok (.bipush 6, 2) := by decide +kernel
theorem dX4_net_37 : decode cX4_net 37 = .ok (.if_icmp .lt 5, 3) := by decide +kernel
theorem dX4_net_40 : decode cX4_net 40 = .ok (.iconst (-1), 1) := by decide +kernel
theorem dX4_net_41 : decode cX4_net 41 = .ok (.ireturn, 1) := by decide +kernel
theorem dX4_net_42 : decode cX4_net 42 = .ok (.aload_n 0, 1) := by decide +kernel
theorem dX4_net_43 : decode cX4_net 43 = .ok (.getfield 11, 3) := by decide +kernel
theorem dX4_net_46 : decode cX4_net 46 = .ok (.aload_n 0, 1) := by decide +kernel
theorem dX4_net_47 : decode cX4_net 47 = .ok (.getfield 35, 3) := by decide +kernel
theorem dX4_net_50 : decode cX4_net 50 = .ok (.new 9, 3) := by decide +kernel
theorem dX4_net_53 : decode cX4_net 53 = .ok (.dup, 1) := by decide +kernel
theorem dX4_net_54 : decode cX4_net 54 = .ok (.iload_n 1, 1) := by decide +kernel
theorem dX4_net_55 : decode cX4_net 55 = .ok (.iload_n 2, 1) := by decide +kernel
theorem dX4_net_56 : decode cX4_net 56 = .ok (.invokespecial 42, 3) := by decide +kernel
theorem dX4_net_59 : decode cX4_net 59 = .ok (.aastore, 1) := by decide +kernel
theorem dX4_net_60 : decode cX4_net 60 = .ok (.aload_n 0, 1) := by decide +kernel
theorem dX4_net_61 : decode cX4_net 61 = .ok (.dup, 1) := by decide +kernel
theorem dX4_net_62 : decode cX4_net 62 = .ok (.getfield 35, 3) := by decide +kernel
theorem dX4_net_65 : decode cX4_net 65 = .ok (.iconst 1, 1) := by decide +kernel
theorem dX4_net_66 : decode cX4_net 66 = .ok (.iadd, 1) := by decide +kernel
theorem dX4_net_67 : decode cX4_net 67 = .ok (.putfield 35, 3) := by decide +kernel
theorem dX4_net_70 : decode cX4_net 70 = .ok (.aload_n 0, 1) := by decide +kernel
theorem dX4_net_71 : decode cX4_net 71 = .ok (.getfield 35, 3) := by decide +kernel
theorem dX4_net_74 : decode cX4_net 74 = .ok (.iconst 1, 1) := by decide +kernel
theorem dX4_net_75 : decode cX4_net 75 = .ok (.isub, 1) := by decide +kernel
theorem dX4_net_76 : decode cX4_net 76 = .ok (.ireturn, 1) := by decide +kernel
set_option maxRecDepth 20000 in
theorem ggX4_join_X4_netOf : GoodIn wsX4_join wsX4_netOf := goodIn_ca (goodIn_r _ [6, 7, 8, 9, 31, 32, 33, 34, 35, 36] (by decide +kernel) (by decide +kernel)) (goodIn_sub (fun _ h => List.mem_cons_of_mem _ (List.mem_append_right _ h)) (by decide +kernel))
set_option maxRecDepth 20000 in
theorem gX4_join_X4_netOf : GoodIn wsX4_join (wsV RX4 45 RX4 yX4_netOf wsX4_netOf) := goodIn_app (goodIn_of _ (by decide +kernel)) ggX4_join_X4_netOf
set_option maxRecDepth 20000 in
theorem ggX4_join_X4_cellOf : GoodIn wsX4_join wsX4_cellOf := goodIn_ca (goodIn_r _ [12, 7, 8, 13, 14, 15, 5, 16, 17, 24, 25, 26, 27, 28, 29, 30] (by decide +kernel) (by decide +kernel)) (goodIn_sub (fun _ h => List.mem_cons_of_mem _ (List.mem_append_right _ h)) (by decide +kernel))
set_option maxRecDepth 20000 in
theorem gX4_join_X4_cellOf : GoodIn wsX4_join (va_wsS RX4 49 yX4_cellOf wsX4_cellOf) := goodIn_app (goodIn_of _ (by decide +kernel)) ggX4_join_X4_cellOf
set_option maxRecDepth 20000 in
theorem ggX4_join_X1_joinCells : GoodIn wsX4_join wsX1_joinCells := goodIn_r _ [22, 23, 24, 25, 26, 27, 28, 29, 30] (by decide +kernel) (by decide +kernel)
set_option maxRecDepth 20000 in
theorem gX4_join_X1_joinCells : GoodIn wsX4_join (wsV RX4 57 RX1 yX1_joinCells wsX1_joinCells) := goodIn_app (goodIn_of _ (by decide +kernel)) ggX4_join_X1_joinCells
theorem dX4_join_0 : decode cX4_join 0 = .ok (.aload_n 0, 1) := by decide +kernel
theorem dX4_join_1 : decode cX4_join 1 = .ok (.iload_n 1, 1) := by decide +kernel
theorem dX4_join_2 : decode cX4_join 2 = .ok (.invokevirtual 45, 3) := by decide +kernel
theorem dX4_join_5 : decode cX4_join 5 = .ok (.astore 6, 2) := by decide +kernel
theorem dX4_join_7 : decode cX4_join 7 = .ok (.aload 6, 2) := by decide +kernel
theorem dX4_join_9 : decode cX4_join 9 = .ok (.iload_n 2, 1) := by decide +kernel
theorem dX4_join_10 : decode cX4_join 10 = .ok (.iload_n 3, 1) := by decide +kernel
theorem dX4_join_11 : decode cX4_join 11 = .ok (.invokestatic 49, 3) := by decide +kernel
theorem dX4_join_14 : decode cX4_join 14 = .ok (.istore 7, 2) := by decide +kernel
theorem dX4_join_16 : decode cX4_join 16 = .ok (.aload 6, 2) := by decide +kernel
theorem dX4_join_18 : decode cX4_join 18 = .ok (.iload 4, 2) := by decide +kernel
theorem dX4_join_20 : decode cX4_join 20 = .ok (.iload 5, 2) := by decide +kernel
theorem dX4_join_22 : decode cX4_join 22 = .ok (.invokestatic 49, 3) := by decide +kernel
theorem dX4_join_25 : decode cX4_join 25 = .ok (.istore 8, 2) := by decide +kernel
theorem dX4_join_27 : decode cX4_join 27 = .ok (.aload 6, 2) := by decide +kernel
theorem dX4_join_29 : decode cX4_join 29 = .ok (.getfield 53, 3) := by decide +kernel
theorem dX4_join_32 : decode cX4_join 32 = .ok (.ifCond .eq 5, 3) := by decide +kernel
theorem dX4_join_35 : decode cX4_join 35 = .ok (.iconst 0, 1) := by decide +kernel
theorem dX4_join_36 : decode cX4_join 36 = .ok (.ireturn, 1) := by decide +kernel
theorem dX4_join_37 : decode cX4_join 37 = .ok (.aload 6, 2) := by decide +kernel
theorem dX4_join_39 : decode cX4_join 39 = .ok (.iload 7, 2) := by decide +kernel
theorem dX4_join_41 : decode cX4_join 41 = .ok (.iload 8, 2) := by decide +kernel
theorem dX4_join_43 : decode cX4_join 43 = .ok (.invokevirtual 57, 3) := by decide +kernel
theorem dX4_join_46 : decode cX4_join 46 = .ok (.iconst 1, 1) := by decide +kernel
theorem dX4_join_47 : decode cX4_join 47 = .ok (.ireturn, 1) := by decide +kernel
set_option maxRecDepth 20000 in
theorem ggX4_leads_X4_netOf : GoodIn wsX4_leads wsX4_netOf := goodIn_ca (goodIn_r _ [6, 7, 8, 9, 25, 26, 27, 28, 29, 30] (by decide +kernel) (by decide +kernel)) (goodIn_sub (fun _ h => List.mem_cons_of_mem _ (List.mem_append_right _ h)) (by decide +kernel))
set_option maxRecDepth 20000 in
theorem gX4_leads_X4_netOf : GoodIn wsX4_leads (wsV RX4 45 RX4 yX4_netOf wsX4_netOf) := goodIn_app (goodIn_of _ (by decide +kernel)) ggX4_leads_X4_netOf
set_option maxRecDepth 20000 in
theorem ggX4_leads_X4_cellOf : GoodIn wsX4_leads wsX4_cellOf := goodIn_ca (goodIn_r _ [12, 7, 8, 13, 14, 15, 5, 16, 17, 18, 19, 20, 21, 22, 23, 24] (by decide +kernel) (by decide +kernel)) (goodIn_sub (fun _ h => List.mem_cons_of_mem _ (List.mem_append_right _ h)) (by decide +kernel))
set_option maxRecDepth 20000 in
theorem gX4_leads_X4_cellOf : GoodIn wsX4_leads (va_wsS RX4 49 yX4_cellOf wsX4_cellOf) := goodIn_app (goodIn_of _ (by decide +kernel)) ggX4_leads_X4_cellOf
theorem dX4_leads_0 : decode cX4_leads 0 = .ok (.aload_n 0, 1) := by decide +kernel
theorem dX4_leads_1 : decode cX4_leads 1 = .ok (.iload_n 1, 1) := by decide +kernel
theorem dX4_leads_2 : decode cX4_leads 2 = .ok (.invokevirtual 45, 3) := by decide +kernel
theorem dX4_leads_5 : decode cX4_leads 5 = .ok (.astore 4, 2) := by decide +kernel
theorem dX4_leads_7 : decode cX4_leads 7 = .ok (.aload 4, 2) := by decide +kernel
theorem dX4_leads_9 : decode cX4_leads 9 = .ok (.getfield 60, 3) := by decide +kernel
theorem dX4_leads_12 : decode cX4_leads 12 = .ok (.aload 4, 2) := by decide +kernel
theorem dX4_leads_14 : decode cX4_leads 14 = .ok (.iload_n 2, 1) := by decide +kernel
theorem dX4_leads_15 : decode cX4_leads 15 = .ok (.iload_n 3, 1) := by decide +kernel
theorem dX4_leads_16 : decode cX4_leads 16 = .ok (.invokestatic 49, 3) := by decide +kernel
theorem dX4_leads_19 : decode cX4_leads 19 = .ok (.iaload, 1) := by decide +kernel
theorem dX4_leads_20 : decode cX4_leads 20 = .ok (.ireturn, 1) := by decide +kernel
set_option maxRecDepth 20000 in
theorem ggX4_mark_X4_netOf : GoodIn wsX4_mark wsX4_netOf := goodIn_ca (goodIn_r _ [7, 8, 9, 10, 22, 23, 24, 25, 26, 27] (by decide +kernel) (by decide +kernel)) (goodIn_sub (fun _ h => List.mem_cons_of_mem _ (List.mem_append_right _ h)) (by decide +kernel))
set_option maxRecDepth 20000 in
theorem gX4_mark_X4_netOf : GoodIn wsX4_mark (wsV RX4 45 RX4 yX4_netOf wsX4_netOf) := goodIn_app (goodIn_of _ (by decide +kernel)) ggX4_mark_X4_netOf
set_option maxRecDepth 20000 in
theorem ggX4_mark_X4_needPlace : GoodIn wsX4_mark wsX4_needPlace := goodIn_ca (goodIn_r _ [13, 8, 9, 14, 15, 16, 17, 18, 19, 20, 21] (by decide +kernel) (by decide +kernel)) (goodIn_sub (fun _ h => List.mem_cons_of_mem _ (List.mem_append_right _ h)) (by decide +kernel))
set_option maxRecDepth 20000 in
theorem gX4_mark_X4_needPlace : GoodIn wsX4_mark (va_wsS RX4 64 yX4_needPlace wsX4_needPlace) := goodIn_app (goodIn_of _ (by decide +kernel)) ggX4_mark_X4_needPlace
theorem dX4_mark_0 : decode cX4_mark 0 = .ok (.aload_n 0, 1) := by decide +kernel
theorem dX4_mark_1 : decode cX4_mark 1 = .ok (.iload_n 1, 1) := by decide +kernel
theorem dX4_mark_2 : decode cX4_mark 2 = .ok (.invokevirtual 45, 3) := by decide +kernel
theorem dX4_mark_5 : decode cX4_mark 5 = .ok (.astore 4, 2) := by decide +kernel
theorem dX4_mark_7 : decode cX4_mark 7 = .ok (.aload 4, 2) := by decide +kernel
theorem dX4_mark_9 : decode cX4_mark 9 = .ok (.iload_n 2, 1) := by decide +kernel
theorem dX4_mark_10 : decode cX4_mark 10 = .ok (.invokestatic 64, 3) := by decide +kernel
theorem dX4_mark_13 : decode cX4_mark 13 = .ok (.aload 4, 2) := by decide +kernel
theorem dX4_mark_15 : decode cX4_mark 15 = .ok (.getfield 53, 3) := by decide +kernel
theorem dX4_mark_18 : decode cX4_mark 18 = .ok (.ifCond .eq 5, 3) := by decide +kernel
theorem dX4_mark_21 : decode cX4_mark 21 = .ok (.iconst 0, 1) := by decide +kernel
theorem dX4_mark_22 : decode cX4_mark 22 = .ok (.ireturn, 1) := by decide +kernel
theorem dX4_mark_23 : decode cX4_mark 23 = .ok (.aload 4, 2) := by decide +kernel
theorem dX4_mark_25 : decode cX4_mark 25 = .ok (.getfield 68, 3) := by decide +kernel
theorem dX4_mark_28 : decode cX4_mark 28 = .ok (.iload_n 2, 1) := by decide +kernel
theorem dX4_mark_29 : decode cX4_mark 29 = .ok (.iload_n 3, 1) := by decide +kernel
theorem dX4_mark_30 : decode cX4_mark 30 = .ok (.bastore, 1) := by decide +kernel
theorem dX4_mark_31 : decode cX4_mark 31 = .ok (.iconst 1, 1) := by decide +kernel
theorem dX4_mark_32 : decode cX4_mark 32 = .ok (.ireturn, 1) := by decide +kernel
set_option maxRecDepth 20000 in
theorem ggX4_alike_X4_netOf : GoodIn wsX4_alike wsX4_netOf := goodIn_ca (goodIn_r _ [8, 9, 10, 11, 36, 37, 38, 39, 40, 41] (by decide +kernel) (by decide +kernel)) (goodIn_sub (fun _ h => List.mem_cons_of_mem _ (List.mem_append_right _ h)) (by decide +kernel))
set_option maxRecDepth 20000 in
theorem gX4_alike_X4_netOf : GoodIn wsX4_alike (wsV RX4 45 RX4 yX4_netOf wsX4_netOf) := goodIn_app (goodIn_of _ (by decide +kernel)) ggX4_alike_X4_netOf
set_option maxRecDepth 20000 in
theorem ggX4_alike_X4_needPlace : GoodIn wsX4_alike wsX4_needPlace := goodIn_ca (goodIn_r _ [14, 9, 10, 15, 45, 46, 47, 48, 49, 50, 51] (by decide +kernel) (by decide +kernel)) (goodIn_sub (fun _ h => List.mem_cons_of_mem _ (List.mem_append_right _ h)) (by decide +kernel))
set_option maxRecDepth 20000 in
theorem gX4_alike_X4_needPlace : GoodIn wsX4_alike (va_wsS RX4 64 yX4_needPlace wsX4_needPlace) := goodIn_app (goodIn_of _ (by decide +kernel)) ggX4_alike_X4_needPlace
set_option maxRecDepth 20000 in
theorem ggX4_alike_X0_partAll : GoodIn wsX4_alike wsX0_partAll := goodIn_r _ [20, 21, 22, 23, 24, 25, 26, 27, 19, 28, 29, 30, 31, 32, 33, 34, 35, 45, 46, 47, 48, 49, 50, 51, 42, 43, 44] (by decide +kernel) (by decide +kernel)
set_option maxRecDepth 20000 in
theorem gX4_alike_X0_partAll : GoodIn wsX4_alike (wsV RX4 72 RX0 yX0_partAll wsX0_partAll) := goodIn_app (goodIn_of _ (by decide +kernel)) ggX4_alike_X0_partAll
theorem dX4_alike_0 : decode cX4_alike 0 = .ok (.aload_n 0, 1) := by decide +kernel
theorem dX4_alike_1 : decode cX4_alike 1 = .ok (.iload_n 1, 1) := by decide +kernel
theorem dX4_alike_2 : decode cX4_alike 2 = .ok (.invokevirtual 45, 3) := by decide +kernel
theorem dX4_alike_5 : decode cX4_alike 5 = .ok (.astore_n 3, 1) := by decide +kernel
theorem dX4_alike_6 : decode cX4_alike 6 = .ok (.iload_n 2, 1) := by decide +kernel
theorem dX4_alike_7 : decode cX4_alike 7 = .ok (.iconst (-1), 1) := by decide +kernel
theorem dX4_alike_8 : decode cX4_alike 8 = .ok (.if_icmp .eq 8, 3) := by decide +kernel
theorem dX4_alike_11 : decode cX4_alike 11 = .ok (.aload_n 3, 1) := by decide +kernel
theorem dX4_alike_12 : decode cX4_alike 12 = .ok (.iload_n 2, 1) := by decide +kernel
theorem dX4_alike_13 : decode cX4_alike 13 = .ok (.invokestatic 64, 3) := by decide +kernel
theorem dX4_alike_16 : decode cX4_alike 16 = .ok (.aload_n 0, 1) := by decide +kernel
theorem dX4_alike_17 : decode cX4_alike 17 = .ok (.getfield 31, 3) := by decide +kernel
theorem dX4_alike_20 : decode cX4_alike 20 = .ok (.aload_n 3, 1) := by decide +kernel
theorem dX4_alike_21 : decode cX4_alike 21 = .ok (.invokevirtual 72, 3) := by decide +kernel
theorem dX4_alike_24 : decode cX4_alike 24 = .ok (.iload_n 2, 1) := by decide +kernel
theorem dX4_alike_25 : decode cX4_alike 25 = .ok (.iconst (-1), 1) := by decide +kernel
theorem dX4_alike_26 : decode cX4_alike 26 = .ok (.if_icmp .ne 13, 3) := by decide +kernel
theorem dX4_alike_29 : decode cX4_alike 29 = .ok (.aload_n 0, 1) := by decide +kernel
theorem dX4_alike_30 : decode cX4_alike 30 = .ok (.getfield 31, 3) := by decide +kernel
theorem dX4_alike_33 : decode cX4_alike 33 = .ok (.getfield 76, 3) := by decide +kernel
theorem dX4_alike_36 : decode cX4_alike 36 = .ok (.goto 12, 3) := by decide +kernel
theorem dX4_alike_39 : decode cX4_alike 39 = .ok (.aload_n 0, 1) := by decide +kernel
theorem dX4_alike_40 : decode cX4_alike 40 = .ok (.getfield 31, 3) := by decide +kernel
theorem dX4_alike_43 : decode cX4_alike 43 = .ok (.getfield 79, 3) := by decide +kernel
theorem dX4_alike_46 : decode cX4_alike 46 = .ok (.iload_n 2, 1) := by decide +kernel
theorem dX4_alike_47 : decode cX4_alike 47 = .ok (.iaload, 1) := by decide +kernel
theorem dX4_alike_48 : decode cX4_alike 48 = .ok (.ireturn, 1) := by decide +kernel
set_option maxRecDepth 20000 in
theorem ggX4_walk_X4_netOf : GoodIn wsX4_walk wsX4_netOf := goodIn_ca (goodIn_r _ [11, 12, 13, 14, 33, 34, 35, 36, 37, 38] (by decide +kernel) (by decide +kernel)) (goodIn_sub (fun _ h => List.mem_cons_of_mem _ (List.mem_append_right _ h)) (by decide +kernel))
set_option maxRecDepth 20000 in
theorem gX4_walk_X4_netOf : GoodIn wsX4_walk (wsV RX4 45 RX4 yX4_netOf wsX4_netOf) := goodIn_app (goodIn_of _ (by decide +kernel)) ggX4_walk_X4_netOf
set_option maxRecDepth 20000 in
theorem ggX4_walk_X2_init : GoodIn wsX4_walk wsX2_init := goodIn_r _ [17, 18, 19, 20, 21, 22, 23, 24, 25, 26, 27, 28, 29, 30, 31, 32, 49, 50, 46, 47, 48] (by decide +kernel) (by decide +kernel)
set_option maxRecDepth 20000 in
theorem gX4_walk_X2_init : GoodIn wsX4_walk (wsX2_init) := ggX4_walk_X2_init
theorem dX4_walk_0 : decode cX4_walk 0 = .ok (.aload_n 0, 1) := by decide +kernel
theorem dX4_walk_1 : decode cX4_walk 1 = .ok (.iload_n 1, 1) := by decide +kernel
theorem dX4_walk_2 : decode cX4_walk 2 = .ok (.invokevirtual 45, 3) := by decide +kernel
theorem dX4_walk_5 : decode cX4_walk 5 = .ok (.astore_n 2, 1) := by decide +kernel
theorem dX4_walk_6 : decode cX4_walk 6 = .ok (.aload_n 0, 1) := by decide +kernel
theorem dX4_walk_7 : decode cX4_walk 7 = .ok (.getfield 39, 3) := by decide +kernel
theorem dX4_walk_10 : decode cX4_walk 10 = .ok (.bipush 12, 2) := by decide +kernel
theorem dX4_walk_12 : decode cX4_walk 12 = .ok (.if_icmp .lt 5, 3) := by decide +kernel
theorem dX4_walk_15 : decode cX4_walk 15 = .ok (.iconst (-1), 1) := by decide +kernel
theorem dX4_walk_16 : decode cX4_walk 16 = .ok (.ireturn, 1) := by decide +kernel
theorem dX4_walk_17 : decode cX4_walk 17 = .ok (.aload_n 2, 1) := by decide +kernel
theorem dX4_walk_18 : decode cX4_walk 18 = .ok (.iconst 1, 1) := by decide +kernel
theorem dX4_walk_19 : decode cX4_walk 19 = .ok (.putfield 53, 3) := by decide +kernel
theorem dX4_walk_22 : decode cX4_walk 22 = .ok (.aload_n 0, 1) := by decide +kernel
theorem dX4_walk_23 : decode cX4_walk 23 = .ok (.getfield 17, 3) := by decide +kernel
theorem dX4_walk_26 : decode cX4_walk 26 = .ok (.aload_n 0, 1) := by decide +kernel
theorem dX4_walk_27 : decode cX4_walk 27 = .ok (.getfield 39, 3) := by decide +kernel
theorem dX4_walk_30 : decode cX4_walk 30 = .ok (.new 15, 3) := by decide +kernel
theorem dX4_walk_33 : decode cX4_walk 33 = .ok (.dup, 1) := by decide +kernel
theorem dX4_walk_34 : decode cX4_walk 34 = .ok (.iload_n 1, 1) := by decide +kernel
theorem dX4_walk_35 : decode cX4_walk 35 = .ok (.aload_n 2, 1) := by decide +kernel
theorem dX4_walk_36 : decode cX4_walk 36 = .ok (.invokespecial 82, 3) := by decide +kernel
theorem dX4_walk_39 : decode cX4_walk 39 = .ok (.aastore, 1) := by decide +kernel
theorem dX4_walk_40 : decode cX4_walk 40 = .ok (.aload_n 0, 1) := by decide +kernel
theorem dX4_walk_41 : decode cX4_walk 41 = .ok (.dup, 1) := by decide +kernel
theorem dX4_walk_42 : decode cX4_walk 42 = .ok (.getfield 39, 3) := by decide +kernel
theorem dX4_walk_45 : decode cX4_walk 45 = .ok (.iconst 1, 1) := by decide +kernel
theorem dX4_walk_46 : decode cX4_walk 46 = .ok (.iadd, 1) := by decide +kernel
theorem dX4_walk_47 : decode cX4_walk 47 = .ok (.putfield 39, 3) := by decide +kernel
theorem dX4_walk_50 : decode cX4_walk 50 = .ok (.aload_n 0, 1) := by decide +kernel
theorem dX4_walk_51 : decode cX4_walk 51 = .ok (.getfield 39, 3) := by decide +kernel
theorem dX4_walk_54 : decode cX4_walk 54 = .ok (.iconst 1, 1) := by decide +kernel
theorem dX4_walk_55 : decode cX4_walk 55 = .ok (.isub, 1) := by decide +kernel
theorem dX4_walk_56 : decode cX4_walk 56 = .ok (.ireturn, 1) := by decide +kernel
set_option maxRecDepth 20000 in
theorem ggX4_set_X4_walkOf : GoodIn wsX4_set wsX4_walkOf := goodIn_ca (goodIn_r _ [9, 10, 11, 12, 42, 43, 44, 45, 46, 47] (by decide +kernel) (by decide +kernel)) (goodIn_sub (fun _ h => List.mem_cons_of_mem _ (List.mem_append_left _ (List.mem_append_right _ h))) (by decide +kernel))
set_option maxRecDepth 20000 in
theorem gX4_set_X4_walkOf : GoodIn wsX4_set (wsV RX4 85 RX4 yX4_walkOf wsX4_walkOf) := goodIn_app (goodIn_of _ (by decide +kernel)) ggX4_set_X4_walkOf
set_option maxRecDepth 20000 in
theorem ggX4_set_X4_cellOf : GoodIn wsX4_set wsX4_cellOf := goodIn_ca (goodIn_r _ [15, 10, 11, 16, 17, 18, 8, 19, 20, 48, 49, 50, 51, 52, 53, 54] (by decide +kernel) (by decide +kernel)) (goodIn_sub (fun _ h => List.mem_cons_of_mem _ (List.mem_append_left _ (List.mem_append_right _ h))) (by decide +kernel))
set_option maxRecDepth 20000 in
theorem gX4_set_X4_cellOf : GoodIn wsX4_set (va_wsS RX4 49 yX4_cellOf wsX4_cellOf) := goodIn_app (goodIn_of _ (by decide +kernel)) ggX4_set_X4_cellOf
set_option maxRecDepth 20000 in
theorem ggX4_set_X4_needTold : GoodIn wsX4_set wsX4_needTold := goodIn_ca (goodIn_r _ [23, 24, 25, 26, 27, 8, 28, 29, 30] (by decide +kernel) (by decide +kernel)) (goodIn_sub (fun _ h => List.mem_cons_of_mem _ (List.mem_append_right _ h)) (by decide +kernel))
set_option maxRecDepth 20000 in
theorem gX4_set_X4_needTold : GoodIn wsX4_set (va_wsS RX4 93 yX4_needTold wsX4_needTold) := goodIn_app (goodIn_of _ (by decide +kernel)) ggX4_set_X4_needTold
set_option maxRecDepth 20000 in
theorem ggX4_set_X3_isToldBut : GoodIn wsX4_set wsX3_isToldBut := goodIn_r _ [35, 36, 27, 8, 28, 29, 30, 40, 41] (by decide +kernel) (by decide +kernel)
set_option maxRecDepth 20000 in
theorem gX4_set_X3_isToldBut : GoodIn wsX4_set (wsV RX4 100 RX3 yX3_isToldBut wsX3_isToldBut) := goodIn_app (goodIn_of _ (by decide +kernel)) ggX4_set_X3_isToldBut
theorem dX4_set_0 : decode cX4_set 0 = .ok (.aload_n 0, 1) := by decide +kernel
theorem dX4_set_1 : decode cX4_set 1 = .ok (.iload_n 1, 1) := by decide +kernel
theorem dX4_set_2 : decode cX4_set 2 = .ok (.invokevirtual 85, 3) := by decide +kernel
theorem dX4_set_5 : decode cX4_set 5 = .ok (.astore 5, 2) := by decide +kernel
theorem dX4_set_7 : decode cX4_set 7 = .ok (.aload 5, 2) := by decide +kernel
theorem dX4_set_9 : decode cX4_set 9 = .ok (.getfield 89, 3) := by decide +kernel
theorem dX4_set_12 : decode cX4_set 12 = .ok (.iload_n 2, 1) := by decide +kernel
theorem dX4_set_13 : decode cX4_set 13 = .ok (.iload_n 3, 1) := by decide +kernel
theorem dX4_set_14 : decode cX4_set 14 = .ok (.invokestatic 49, 3) := by decide +kernel
theorem dX4_set_17 : decode cX4_set 17 = .ok (.istore 6, 2) := by decide +kernel
theorem dX4_set_19 : decode cX4_set 19 = .ok (.iload 4, 2) := by decide +kernel
theorem dX4_set_21 : decode cX4_set 21 = .ok (.invokestatic 93, 3) := by decide +kernel
theorem dX4_set_24 : decode cX4_set 24 = .ok (.aload 5, 2) := by decide +kernel
theorem dX4_set_26 : decode cX4_set 26 = .ok (.getfield 97, 3) := by decide +kernel
theorem dX4_set_29 : decode cX4_set 29 = .ok (.iload 6, 2) := by decide +kernel
theorem dX4_set_31 : decode cX4_set 31 = .ok (.invokevirtual 100, 3) := by decide +kernel
theorem dX4_set_34 : decode cX4_set 34 = .ok (.ifCond .ne 5, 3) := by decide +kernel
theorem dX4_set_37 : decode cX4_set 37 = .ok (.iconst 0, 1) := by decide +kernel
theorem dX4_set_38 : decode cX4_set 38 = .ok (.ireturn, 1) := by decide +kernel
theorem dX4_set_39 : decode cX4_set 39 = .ok (.aload 5, 2) := by decide +kernel
theorem dX4_set_41 : decode cX4_set 41 = .ok (.getfield 97, 3) := by decide +kernel
theorem dX4_set_44 : decode cX4_set 44 = .ok (.getfield 104, 3) := by decide +kernel
theorem dX4_set_47 : decode cX4_set 47 = .ok (.iload 6, 2) := by decide +kernel
theorem dX4_set_49 : decode cX4_set 49 = .ok (.iload 4, 2) := by decide +kernel
theorem dX4_set_51 : decode cX4_set 51 = .ok (.i2l, 1) := by decide +kernel
theorem dX4_set_52 : decode cX4_set 52 = .ok (.lastore, 1) := by decide +kernel
theorem dX4_set_53 : decode cX4_set 53 = .ok (.aload 5, 2) := by decide +kernel
theorem dX4_set_55 : decode cX4_set 55 = .ok (.getfield 97, 3) := by decide +kernel
theorem dX4_set_58 : decode cX4_set 58 = .ok (.iconst 0, 1) := by decide +kernel
theorem dX4_set_59 : decode cX4_set 59 = .ok (.putfield 108, 3) := by decide +kernel
theorem dX4_set_62 : decode cX4_set 62 = .ok (.iconst 1, 1) := by decide +kernel
theorem dX4_set_63 : decode cX4_set 63 = .ok (.ireturn, 1) := by decide +kernel
set_option maxRecDepth 20000 in
theorem ggX4_spread_X4_walkOf : GoodIn wsX4_spread wsX4_walkOf := goodIn_ca (goodIn_r _ [7, 8, 9, 10, 33, 34, 35, 36, 37, 38] (by decide +kernel) (by decide +kernel)) (goodIn_sub (fun _ h => List.mem_cons_of_mem _ (List.mem_append_left _ (List.mem_append_right _ h))) (by decide +kernel))
set_option maxRecDepth 20000 in
theorem gX4_spread_X4_walkOf : GoodIn wsX4_spread (wsV RX4 85 RX4 yX4_walkOf wsX4_walkOf) := goodIn_app (goodIn_of _ (by decide +kernel)) ggX4_spread_X4_walkOf
set_option maxRecDepth 20000 in
theorem ggX4_spread_X4_needTold : GoodIn wsX4_spread wsX4_needTold := goodIn_ca (goodIn_r _ [13, 14, 15, 16, 17, 6, 18, 19, 20] (by decide +kernel) (by decide +kernel)) (goodIn_sub (fun _ h => List.mem_cons_of_mem _ (List.mem_append_right _ h)) (by decide +kernel))
set_option maxRecDepth 20000 in
theorem gX4_spread_X4_needTold : GoodIn wsX4_spread (va_wsS RX4 93 yX4_needTold wsX4_needTold) := goodIn_app (goodIn_of _ (by decide +kernel)) ggX4_spread_X4_needTold
set_option maxRecDepth 20000 in
theorem ggX4_spread_X3_fillAll : GoodIn wsX4_spread wsX3_fillAll := goodIn_r _ [25, 26, 27, 28, 29, 39, 40, 41, 42, 43, 44, 45, 46, 47] (by decide +kernel) (by decide +kernel)
set_option maxRecDepth 20000 in
theorem gX4_spread_X3_fillAll : GoodIn wsX4_spread (wsV RX4 111 RX3 yX3_fillAll wsX3_fillAll) := goodIn_app (goodIn_of _ (by decide +kernel)) ggX4_spread_X3_fillAll
theorem dX4_spread_0 : decode cX4_spread 0 = .ok (.aload_n 0, 1) := by decide +kernel
theorem dX4_spread_1 : decode cX4_spread 1 = .ok (.iload_n 1, 1) := by decide +kernel
theorem dX4_spread_2 : decode cX4_spread 2 = .ok (.invokevirtual 85, 3) := by decide +kernel
theorem dX4_spread_5 : decode cX4_spread 5 = .ok (.astore_n 3, 1) := by decide +kernel
theorem dX4_spread_6 : decode cX4_spread 6 = .ok (.iload_n 2, 1) := by decide +kernel
theorem dX4_spread_7 : decode cX4_spread 7 = .ok (.invokestatic 93, 3) := by decide +kernel
theorem dX4_spread_10 : decode cX4_spread 10 = .ok (.aload_n 3, 1) := by decide +kernel
theorem dX4_spread_11 : decode cX4_spread 11 = .ok (.getfield 97, 3) := by decide +kernel
theorem dX4_spread_14 : decode cX4_spread 14 = .ok (.aload_n 3, 1) := by decide +kernel
theorem dX4_spread_15 : decode cX4_spread 15 = .ok (.getfield 89, 3) := by decide +kernel
theorem dX4_spread_18 : decode cX4_spread 18 = .ok (.iload_n 2, 1) := by decide +kernel
theorem dX4_spread_19 : decode cX4_spread 19 = .ok (.invokevirtual 111, 3) := by decide +kernel
theorem dX4_spread_22 : decode cX4_spread 22 = .ok (.return_, 1) := by decide +kernel
set_option maxRecDepth 20000 in
theorem ggX4_step_X4_walkOf : GoodIn wsX4_step wsX4_walkOf := goodIn_ca (goodIn_r _ [8, 9, 10, 11, 62, 63, 64, 65, 66, 67] (by decide +kernel) (by decide +kernel)) (goodIn_sub (fun _ h => List.mem_cons_of_mem _ (List.mem_append_left _ (List.mem_append_right _ h))) (by decide +kernel))
set_option maxRecDepth 20000 in
theorem gX4_step_X4_walkOf : GoodIn wsX4_step (wsV RX4 85 RX4 yX4_walkOf wsX4_walkOf) := goodIn_app (goodIn_of _ (by decide +kernel)) ggX4_step_X4_walkOf
set_option maxRecDepth 20000 in
theorem ggX4_step_X4_needSteps : GoodIn wsX4_step wsX4_needSteps := goodIn_ca (goodIn_r _ [14, 15, 16] (by decide +kernel) (by decide +kernel)) (goodIn_sub (fun _ h => List.mem_cons_of_mem _ (List.mem_append_right _ h)) (by decide +kernel))
set_option maxRecDepth 20000 in
theorem gX4_step_X4_needSteps : GoodIn wsX4_step (va_wsS RX4 114 yX4_needSteps wsX4_needSteps) := goodIn_app (goodIn_of _ (by decide +kernel)) ggX4_step_X4_needSteps
set_option maxRecDepth 20000 in
theorem ggX4_step_X3_squares : GoodIn wsX4_step wsX3_squares := goodIn_r _ [21, 22, 23, 24, 20, 25, 26, 60, 61] (by decide +kernel) (by decide +kernel)
set_option maxRecDepth 20000 in
theorem gX4_step_X3_squares : GoodIn wsX4_step (wsV RX4 117 RX3 yX3_squares wsX3_squares) := goodIn_app (goodIn_of _ (by decide +kernel)) ggX4_step_X3_squares
set_option maxRecDepth 20000 in
theorem ggX4_step_X3_stepsLeft : GoodIn wsX4_step wsX3_stepsLeft := goodIn_r _ [30, 31, 32, 33, 34, 18, 19, 20, 21, 22, 23, 24, 25, 26, 60, 61, 68, 69, 70, 71, 72, 73, 74] (by decide +kernel) (by decide +kernel)
set_option maxRecDepth 20000 in
theorem gX4_step_X3_stepsLeft : GoodIn wsX4_step (wsV RX4 121 RX3 yX3_stepsLeft wsX3_stepsLeft) := goodIn_app (goodIn_of _ (by decide +kernel)) ggX4_step_X3_stepsLeft
set_option maxRecDepth 20000 in
theorem ggX4_step_X3_doStep : GoodIn wsX4_step wsX3_doStep := goodIn_r _ [38, 39, 40, 31, 41, 42, 43, 20, 44, 45, 26, 46, 47, 48, 49, 50, 51, 52, 53, 54, 55, 56, 68, 69, 70, 71, 72, 73, 74, 60, 61] (by decide +kernel) (by decide +kernel)
set_option maxRecDepth 20000 in
theorem gX4_step_X3_doStep : GoodIn wsX4_step (wsV RX4 125 RX3 yX3_doStep wsX3_doStep) := goodIn_app (goodIn_of _ (by decide +kernel)) ggX4_step_X3_doStep
theorem dX4_step_0 : decode cX4_step 0 = .ok (.aload_n 0, 1) := by decide +kernel
theorem dX4_step_1 : decode cX4_step 1 = .ok (.iload_n 1, 1) := by decide +kernel
theorem dX4_step_2 : decode cX4_step 2 = .ok (.invokevirtual 85, 3) := by decide +kernel
theorem dX4_step_5 : decode cX4_step 5 = .ok (.astore_n 3, 1) := by decide +kernel
theorem dX4_step_6 : decode cX4_step 6 = .ok (.iload_n 2, 1) := by decide +kernel
theorem dX4_step_7 : decode cX4_step 7 = .ok (.invokestatic 114, 3) := by decide +kernel
theorem dX4_step_10 : decode cX4_step 10 = .ok (.aload_n 3, 1) := by decide +kernel
theorem dX4_step_11 : decode cX4_step 11 = .ok (.getfield 97, 3) := by decide +kernel
theorem dX4_step_14 : decode cX4_step 14 = .ok (.astore 4, 2) := by decide +kernel
theorem dX4_step_16 : decode cX4_step 16 = .ok (.aload 4, 2) := by decide +kernel
theorem dX4_step_18 : decode cX4_step 18 = .ok (.invokevirtual 117, 3) := by decide +kernel
theorem dX4_step_21 : decode cX4_step 21 = .ok (.lconst 0, 1) := by decide +kernel
theorem dX4_step_22 : decode cX4_step 22 = .ok (.lcmp, 1) := by decide +kernel
theorem dX4_step_23 : decode cX4_step 23 = .ok (.ifCond .eq 16, 3) := by decide +kernel
theorem dX4_step_26 : decode cX4_step 26 = .ok (.iload_n 2, 1) := by decide +kernel
theorem dX4_step_27 : decode cX4_step 27 = .ok (.aload 4, 2) := by decide +kernel
theorem dX4_step_29 : decode cX4_step 29 = .ok (.aload_n 3, 1) := by decide +kernel
theorem dX4_step_30 : decode cX4_step 30 = .ok (.getfield 89, 3) := by decide +kernel
theorem dX4_step_33 : decode cX4_step 33 = .ok (.invokevirtual 121, 3) := by decide +kernel
theorem dX4_step_36 : decode cX4_step 36 = .ok (.if_icmp .le 5, 3) := by decide +kernel
theorem dX4_step_39 : decode cX4_step 39 = .ok (.iconst (-1), 1) := by decide +kernel
theorem dX4_step_40 : decode cX4_step 40 = .ok (.ireturn, 1) := by decide +kernel
theorem dX4_step_41 : decode cX4_step 41 = .ok (.iconst 0, 1) := by decide +kernel
theorem dX4_step_42 : decode cX4_step 42 = .ok (.istore 5, 2) := by decide +kernel
theorem dX4_step_44 : decode cX4_step 44 = .ok (.iload 5, 2) := by decide +kernel
theorem dX4_step_46 : decode cX4_step 46 = .ok (.iload_n 2, 1) := by decide +kernel
theorem dX4_step_47 : decode cX4_step 47 = .ok (.if_icmp .ge 18, 3) := by decide +kernel
theorem dX4_step_50 : decode cX4_step 50 = .ok (.aload 4, 2) := by decide +kernel
theorem dX4_step_52 : decode cX4_step 52 = .ok (.aload_n 3, 1) := by decide +kernel
theorem dX4_step_53 : decode cX4_step 53 = .ok (.getfield 89, 3) := by decide +kernel
theorem dX4_step_56 : decode cX4_step 56 = .ok (.invokevirtual 125, 3) := by decide +kernel
theorem dX4_step_59 : decode cX4_step 59 = .ok (.iinc 5 1, 3) := by decide +kernel
theorem dX4_step_62 : decode cX4_step 62 = .ok (.goto (-18), 3) := by decide +kernel
theorem dX4_step_65 : decode cX4_step 65 = .ok (.aload 4, 2) := by decide +kernel
theorem dX4_step_67 : decode cX4_step 67 = .ok (.getfield 108, 3) := by decide +kernel
theorem dX4_step_70 : decode cX4_step 70 = .ok (.ireturn, 1) := by decide +kernel
set_option maxRecDepth 20000 in
theorem ggX4_back_X4_walkOf : GoodIn wsX4_back wsX4_walkOf := goodIn_ca (goodIn_r _ [8, 9, 10, 11, 53, 54, 55, 56, 57, 58] (by decide +kernel) (by decide +kernel)) (goodIn_sub (fun _ h => List.mem_cons_of_mem _ (List.mem_append_left _ (List.mem_append_right _ h))) (by decide +kernel))
set_option maxRecDepth 20000 in
theorem gX4_back_X4_walkOf : GoodIn wsX4_back (wsV RX4 85 RX4 yX4_walkOf wsX4_walkOf) := goodIn_app (goodIn_of _ (by decide +kernel)) ggX4_back_X4_walkOf
set_option maxRecDepth 20000 in
theorem ggX4_back_X4_needSteps : GoodIn wsX4_back wsX4_needSteps := goodIn_ca (goodIn_r _ [14, 15, 16] (by decide +kernel) (by decide +kernel)) (goodIn_sub (fun _ h => List.mem_cons_of_mem _ (List.mem_append_right _ h)) (by decide +kernel))
set_option maxRecDepth 20000 in
theorem gX4_back_X4_needSteps : GoodIn wsX4_back (va_wsS RX4 114 yX4_needSteps wsX4_needSteps) := goodIn_app (goodIn_of _ (by decide +kernel)) ggX4_back_X4_needSteps
set_option maxRecDepth 20000 in
theorem ggX4_back_X3_undoStep : GoodIn wsX4_back wsX3_undoStep := goodIn_r _ [21, 22, 23, 24, 25, 26, 27, 20, 28, 29, 30, 31, 32, 33, 34, 35, 36, 37, 38, 39, 40, 41, 42, 43, 44, 45, 46, 47, 59, 60, 61, 62, 63, 64, 65, 51, 52] (by decide +kernel) (by decide +kernel)
set_option maxRecDepth 20000 in
theorem gX4_back_X3_undoStep : GoodIn wsX4_back (wsV RX4 128 RX3 yX3_undoStep wsX3_undoStep) := goodIn_app (goodIn_of _ (by decide +kernel)) ggX4_back_X3_undoStep
theorem dX4_back_0 : decode cX4_back 0 = .ok (.aload_n 0, 1) := by decide +kernel
theorem dX4_back_1 : decode cX4_back 1 = .ok (.iload_n 1, 1) := by decide +kernel
theorem dX4_back_2 : decode cX4_back 2 = .ok (.invokevirtual 85, 3) := by decide +kernel
theorem dX4_back_5 : decode cX4_back 5 = .ok (.astore_n 3, 1) := by decide +kernel
theorem dX4_back_6 : decode cX4_back 6 = .ok (.iload_n 2, 1) := by decide +kernel
theorem dX4_back_7 : decode cX4_back 7 = .ok (.invokestatic 114, 3) := by decide +kernel
theorem dX4_back_10 : decode cX4_back 10 = .ok (.aload_n 3, 1) := by decide +kernel
theorem dX4_back_11 : decode cX4_back 11 = .ok (.getfield 97, 3) := by decide +kernel
theorem dX4_back_14 : decode cX4_back 14 = .ok (.astore 4, 2) := by decide +kernel
theorem dX4_back_16 : decode cX4_back 16 = .ok (.aload 4, 2) := by decide +kernel
theorem dX4_back_18 : decode cX4_back 18 = .ok (.getfield 108, 3) := by decide +kernel
theorem dX4_back_21 : decode cX4_back 21 = .ok (.iload_n 2, 1) := by decide +kernel
theorem dX4_back_22 : decode cX4_back 22 = .ok (.if_icmp .ge 5, 3) := by decide +kernel
theorem dX4_back_25 : decode cX4_back 25 = .ok (.iconst (-1), 1) := by decide +kernel
theorem dX4_back_26 : decode cX4_back 26 = .ok (.ireturn, 1) := by decide +kernel
theorem dX4_back_27 : decode cX4_back 27 = .ok (.iconst 0, 1) := by decide +kernel
theorem dX4_back_28 : decode cX4_back 28 = .ok (.istore 5, 2) := by decide +kernel
theorem dX4_back_30 : decode cX4_back 30 = .ok (.iload 5, 2) := by decide +kernel
theorem dX4_back_32 : decode cX4_back 32 = .ok (.iload_n 2, 1) := by decide +kernel
theorem dX4_back_33 : decode cX4_back 33 = .ok (.if_icmp .ge 18, 3) := by decide +kernel
theorem dX4_back_36 : decode cX4_back 36 = .ok (.aload 4, 2) := by decide +kernel
theorem dX4_back_38 : decode cX4_back 38 = .ok (.aload_n 3, 1) := by decide +kernel
theorem dX4_back_39 : decode cX4_back 39 = .ok (.getfield 89, 3) := by decide +kernel
theorem dX4_back_42 : decode cX4_back 42 = .ok (.invokevirtual 128, 3) := by decide +kernel
theorem dX4_back_45 : decode cX4_back 45 = .ok (.iinc 5 1, 3) := by decide +kernel
theorem dX4_back_48 : decode cX4_back 48 = .ok (.goto (-18), 3) := by decide +kernel
theorem dX4_back_51 : decode cX4_back 51 = .ok (.aload 4, 2) := by decide +kernel
theorem dX4_back_53 : decode cX4_back 53 = .ok (.getfield 108, 3) := by decide +kernel
theorem dX4_back_56 : decode cX4_back 56 = .ok (.ireturn, 1) := by decide +kernel
set_option maxRecDepth 20000 in
theorem ggX4_at_X4_walkOf : GoodIn wsX4_at wsX4_walkOf := goodIn_ca (goodIn_r _ [8, 9, 10, 11, 25, 26, 27, 28, 29, 30] (by decide +kernel) (by decide +kernel)) (goodIn_sub (fun _ h => List.mem_cons_of_mem _ (List.mem_append_right _ h)) (by decide +kernel))
set_option maxRecDepth 20000 in
theorem gX4_at_X4_walkOf : GoodIn wsX4_at (wsV RX4 85 RX4 yX4_walkOf wsX4_walkOf) := goodIn_app (goodIn_of _ (by decide +kernel)) ggX4_at_X4_walkOf
set_option maxRecDepth 20000 in
theorem ggX4_at_X4_cellOf : GoodIn wsX4_at wsX4_cellOf := goodIn_ca (goodIn_r _ [14, 9, 10, 15, 16, 17, 7, 18, 19, 31, 32, 33, 34, 35, 36, 37] (by decide +kernel) (by decide +kernel)) (goodIn_sub (fun _ h => List.mem_cons_of_mem _ (List.mem_append_right _ h)) (by decide +kernel))
set_option maxRecDepth 20000 in
theorem gX4_at_X4_cellOf : GoodIn wsX4_at (va_wsS RX4 49 yX4_cellOf wsX4_cellOf) := goodIn_app (goodIn_of _ (by decide +kernel)) ggX4_at_X4_cellOf
theorem dX4_at_0 : decode cX4_at 0 = .ok (.aload_n 0, 1) := by decide +kernel
theorem dX4_at_1 : decode cX4_at 1 = .ok (.iload_n 1, 1) := by decide +kernel
theorem dX4_at_2 : decode cX4_at 2 = .ok (.invokevirtual 85, 3) := by decide +kernel
theorem dX4_at_5 : decode cX4_at 5 = .ok (.astore 4, 2) := by decide +kernel
theorem dX4_at_7 : decode cX4_at 7 = .ok (.aload 4, 2) := by decide +kernel
theorem dX4_at_9 : decode cX4_at 9 = .ok (.getfield 97, 3) := by decide +kernel
theorem dX4_at_12 : decode cX4_at 12 = .ok (.getfield 104, 3) := by decide +kernel
theorem dX4_at_15 : decode cX4_at 15 = .ok (.aload 4, 2) := by decide +kernel
theorem dX4_at_17 : decode cX4_at 17 = .ok (.getfield 89, 3) := by decide +kernel
theorem dX4_at_20 : decode cX4_at 20 = .ok (.iload_n 2, 1) := by decide +kernel
theorem dX4_at_21 : decode cX4_at 21 = .ok (.iload_n 3, 1) := by decide +kernel
theorem dX4_at_22 : decode cX4_at 22 = .ok (.invokestatic 49, 3) := by decide +kernel
theorem dX4_at_25 : decode cX4_at 25 = .ok (.laload, 1) := by decide +kernel
theorem dX4_at_26 : decode cX4_at 26 = .ok (.lreturn, 1) := by decide +kernel
set_option maxRecDepth 20000 in
theorem ggX4_share_X4_walkOf : GoodIn wsX4_share wsX4_walkOf := goodIn_ca (goodIn_r _ [7, 8, 9, 10, 29, 30, 31, 32, 33, 34] (by decide +kernel) (by decide +kernel)) (goodIn_sub (fun _ h => List.mem_cons_of_mem _ (List.mem_append_right _ h)) (by decide +kernel))
set_option maxRecDepth 20000 in
theorem gX4_share_X4_walkOf : GoodIn wsX4_share (wsV RX4 85 RX4 yX4_walkOf wsX4_walkOf) := goodIn_app (goodIn_of _ (by decide +kernel)) ggX4_share_X4_walkOf
set_option maxRecDepth 20000 in
theorem ggX4_share_X3_squares : GoodIn wsX4_share wsX3_squares := goodIn_r _ [15, 16, 17, 18, 14, 19, 20, 35, 36] (by decide +kernel) (by decide +kernel)
set_option maxRecDepth 20000 in
theorem gX4_share_X3_squares : GoodIn wsX4_share (wsV RX4 117 RX3 yX3_squares wsX3_squares) := goodIn_app (goodIn_of _ (by decide +kernel)) ggX4_share_X3_squares
set_option maxRecDepth 20000 in
theorem ggX4_share_X4_needPlace : GoodIn wsX4_share wsX4_needPlace := goodIn_ca (goodIn_r _ [23, 8, 9, 24, 37, 38, 39, 40, 41, 42, 43] (by decide +kernel) (by decide +kernel)) (goodIn_sub (fun _ h => List.mem_cons_of_mem _ (List.mem_append_right _ h)) (by decide +kernel))
set_option maxRecDepth 20000 in
theorem gX4_share_X4_needPlace : GoodIn wsX4_share (va_wsS RX4 64 yX4_needPlace wsX4_needPlace) := goodIn_app (goodIn_of _ (by decide +kernel)) ggX4_share_X4_needPlace
set_option maxRecDepth 20000 in
theorem ggX4_share_X3_squaresAt : GoodIn wsX4_share wsX3_squaresAt := goodIn_r _ [19, 20, 35, 36] (by decide +kernel) (by decide +kernel)
set_option maxRecDepth 20000 in
theorem gX4_share_X3_squaresAt : GoodIn wsX4_share (wsV RX4 131 RX3 yX3_squaresAt wsX3_squaresAt) := goodIn_app (goodIn_of _ (by decide +kernel)) ggX4_share_X3_squaresAt
theorem dX4_share_0 : decode cX4_share 0 = .ok (.aload_n 0, 1) := by decide +kernel
theorem dX4_share_1 : decode cX4_share 1 = .ok (.iload_n 1, 1) := by decide +kernel
theorem dX4_share_2 : decode cX4_share 2 = .ok (.invokevirtual 85, 3) := by decide +kernel
theorem dX4_share_5 : decode cX4_share 5 = .ok (.astore_n 3, 1) := by decide +kernel
theorem dX4_share_6 : decode cX4_share 6 = .ok (.iload_n 2, 1) := by decide +kernel
theorem dX4_share_7 : decode cX4_share 7 = .ok (.iconst (-1), 1) := by decide +kernel
theorem dX4_share_8 : decode cX4_share 8 = .ok (.if_icmp .ne 11, 3) := by decide +kernel
theorem dX4_share_11 : decode cX4_share 11 = .ok (.aload_n 3, 1) := by decide +kernel
theorem dX4_share_12 : decode cX4_share 12 = .ok (.getfield 97, 3) := by decide +kernel
theorem dX4_share_15 : decode cX4_share 15 = .ok (.invokevirtual 117, 3) := by decide +kernel
theorem dX4_share_18 : decode cX4_share 18 = .ok (.lreturn, 1) := by decide +kernel
theorem dX4_share_19 : decode cX4_share 19 = .ok (.aload_n 3, 1) := by decide +kernel
theorem dX4_share_20 : decode cX4_share 20 = .ok (.getfield 89, 3) := by decide +kernel
theorem dX4_share_23 : decode cX4_share 23 = .ok (.iload_n 2, 1) := by decide +kernel
theorem dX4_share_24 : decode cX4_share 24 = .ok (.invokestatic 64, 3) := by decide +kernel
theorem dX4_share_27 : decode cX4_share 27 = .ok (.aload_n 3, 1) := by decide +kernel
theorem dX4_share_28 : decode cX4_share 28 = .ok (.getfield 97, 3) := by decide +kernel
theorem dX4_share_31 : decode cX4_share 31 = .ok (.iload_n 2, 1) := by decide +kernel
theorem dX4_share_32 : decode cX4_share 32 = .ok (.invokevirtual 131, 3) := by decide +kernel
theorem dX4_share_35 : decode cX4_share 35 = .ok (.lreturn, 1) := by decide +kernel
set_option maxRecDepth 20000 in
theorem ggX4_of_X4_walkOf : GoodIn wsX4_of wsX4_walkOf := goodIn_ca (goodIn_r _ [12, 1, 2, 13, 26, 27, 28, 29, 30, 31] (by decide +kernel) (by decide +kernel)) (goodIn_sub (fun _ h => List.mem_cons_of_mem _ (List.mem_append_right _ h)) (by decide +kernel))
set_option maxRecDepth 20000 in
theorem gX4_of_X4_walkOf : GoodIn wsX4_of (wsV RX4 85 RX4 yX4_walkOf wsX4_walkOf) := goodIn_app (goodIn_of _ (by decide +kernel)) ggX4_of_X4_walkOf
theorem dX4_of_0 : decode cX4_of 0 = .ok (.aload_n 0, 1) := by decide +kernel
theorem dX4_of_1 : decode cX4_of 1 = .ok (.iload_n 1, 1) := by decide +kernel
theorem dX4_of_2 : decode cX4_of 2 = .ok (.invokevirtual 85, 3) := by decide +kernel
theorem dX4_of_5 : decode cX4_of 5 = .ok (.astore_n 3, 1) := by decide +kernel
theorem dX4_of_6 : decode cX4_of 6 = .ok (.iload_n 2, 1) := by decide +kernel
theorem dX4_of_7 : decode cX4_of 7 = .ok (.tableswitch 46 0 2 #[25, 30, 38], 25) := by decide +kernel
theorem dX4_of_32 : decode cX4_of 32 = .ok (.aload_n 3, 1) := by decide +kernel
theorem dX4_of_33 : decode cX4_of 33 = .ok (.getfield 135, 3) := by decide +kernel
theorem dX4_of_36 : decode cX4_of 36 = .ok (.ireturn, 1) := by decide +kernel
theorem dX4_of_37 : decode cX4_of 37 = .ok (.aload_n 3, 1) := by decide +kernel
theorem dX4_of_38 : decode cX4_of 38 = .ok (.getfield 97, 3) := by decide +kernel
theorem dX4_of_41 : decode cX4_of 41 = .ok (.getfield 108, 3) := by decide +kernel
theorem dX4_of_44 : decode cX4_of 44 = .ok (.ireturn, 1) := by decide +kernel
theorem dX4_of_45 : decode cX4_of 45 = .ok (.aload_n 3, 1) := by decide +kernel
theorem dX4_of_46 : decode cX4_of 46 = .ok (.getfield 89, 3) := by decide +kernel
theorem dX4_of_49 : decode cX4_of 49 = .ok (.getfield 138, 3) := by decide +kernel
theorem dX4_of_52 : decode cX4_of 52 = .ok (.ireturn, 1) := by decide +kernel
theorem dX4_of_53 : decode cX4_of 53 = .ok (.new 141, 3) := by decide +kernel
theorem dX4_of_56 : decode cX4_of 56 = .ok (.dup, 1) := by decide +kernel
theorem dX4_of_57 : decode cX4_of 57 = .ok (.ldc 143, 2) := by decide +kernel
theorem dX4_of_59 : decode cX4_of 59 = .ok (.invokespecial 145, 3) := by decide +kernel
theorem dX4_of_62 : decode cX4_of 62 = .ok (.athrow, 1) := by decide +kernel
set_option maxRecDepth 20000 in
theorem ggX4_arrives_X4_walkOf : GoodIn wsX4_arrives wsX4_walkOf := goodIn_ca (goodIn_r _ [12, 13, 14, 15, 79, 80, 81, 82, 83, 84] (by decide +kernel) (by decide +kernel)) (goodIn_sub (fun _ h => List.mem_cons_of_mem _ (List.mem_append_left _ (List.mem_append_right _ h))) (by decide +kernel))
set_option maxRecDepth 20000 in
theorem gX4_arrives_X4_walkOf : GoodIn wsX4_arrives (wsV RX4 85 RX4 yX4_walkOf wsX4_walkOf) := goodIn_app (goodIn_of _ (by decide +kernel)) ggX4_arrives_X4_walkOf
set_option maxRecDepth 20000 in
theorem ggX4_arrives_X4_needPlace : GoodIn wsX4_arrives wsX4_needPlace := goodIn_ca (goodIn_r _ [18, 13, 14, 19, 85, 86, 87, 88, 89, 90, 91] (by decide +kernel) (by decide +kernel)) (goodIn_sub (fun _ h => List.mem_cons_of_mem _ (List.mem_append_left _ (List.mem_append_right _ h))) (by decide +kernel))
set_option maxRecDepth 20000 in
theorem gX4_arrives_X4_needPlace : GoodIn wsX4_arrives (va_wsS RX4 64 yX4_needPlace wsX4_needPlace) := goodIn_app (goodIn_of _ (by decide +kernel)) ggX4_arrives_X4_needPlace
set_option maxRecDepth 20000 in
theorem ggX4_arrives_X4_needSteps : GoodIn wsX4_arrives wsX4_needSteps := goodIn_ca (goodIn_r _ [22, 23, 24] (by decide +kernel) (by decide +kernel)) (goodIn_sub (fun _ h => List.mem_cons_of_mem _ (List.mem_append_right _ h)) (by decide +kernel))
set_option maxRecDepth 20000 in
theorem gX4_arrives_X4_needSteps : GoodIn wsX4_arrives (va_wsS RX4 114 yX4_needSteps wsX4_needSteps) := goodIn_app (goodIn_of _ (by decide +kernel)) ggX4_arrives_X4_needSteps
set_option maxRecDepth 20000 in
theorem ggX4_arrives_X3_stepsLeft : GoodIn wsX4_arrives wsX3_stepsLeft := goodIn_r _ [29, 30, 31, 32, 33, 34, 35, 28, 36, 37, 38, 39, 40, 41, 92, 93, 85, 86, 87, 88, 89, 90, 91] (by decide +kernel) (by decide +kernel)
set_option maxRecDepth 20000 in
theorem gX4_arrives_X3_stepsLeft : GoodIn wsX4_arrives (wsV RX4 121 RX3 yX3_stepsLeft wsX3_stepsLeft) := goodIn_app (goodIn_of _ (by decide +kernel)) ggX4_arrives_X3_stepsLeft
set_option maxRecDepth 20000 in
theorem ggX4_arrives_X3_becomeLike : GoodIn wsX4_arrives wsX3_becomeLike := goodIn_r _ [45, 41, 46, 47, 48, 49, 30, 92, 93] (by decide +kernel) (by decide +kernel)
set_option maxRecDepth 20000 in
theorem gX4_arrives_X3_becomeLike : GoodIn wsX4_arrives (wsV RX4 154 RX3 yX3_becomeLike wsX3_becomeLike) := goodIn_app (goodIn_of _ (by decide +kernel)) ggX4_arrives_X3_becomeLike
set_option maxRecDepth 20000 in
theorem ggX4_arrives_X3_doStep : GoodIn wsX4_arrives wsX3_doStep := goodIn_r _ [53, 54, 55, 30, 56, 57, 58, 28, 59, 60, 41, 61, 62, 63, 64, 65, 66, 67, 68, 69, 70, 71, 85, 86, 87, 88, 89, 90, 91, 92, 93] (by decide +kernel) (by decide +kernel)
set_option maxRecDepth 20000 in
theorem gX4_arrives_X3_doStep : GoodIn wsX4_arrives (wsV RX4 125 RX3 yX3_doStep wsX3_doStep) := goodIn_app (goodIn_of _ (by decide +kernel)) ggX4_arrives_X3_doStep
set_option maxRecDepth 20000 in
theorem ggX4_arrives_X3_isAllAt : GoodIn wsX4_arrives wsX3_isAllAt := goodIn_r _ [75, 37, 38, 39, 28, 40, 41, 33, 34, 35, 36, 92, 93] (by decide +kernel) (by decide +kernel)
set_option maxRecDepth 20000 in
theorem gX4_arrives_X3_isAllAt : GoodIn wsX4_arrives (wsV RX4 158 RX3 yX3_isAllAt wsX3_isAllAt) := goodIn_app (goodIn_of _ (by decide +kernel)) ggX4_arrives_X3_isAllAt
theorem dX4_arrives_0 : decode cX4_arrives 0 = .ok (.aload_n 0, 1) := by decide +kernel
theorem dX4_arrives_1 : decode cX4_arrives 1 = .ok (.iload_n 1, 1) := by decide +kernel
theorem dX4_arrives_2 : decode cX4_arrives 2 = .ok (.invokevirtual 85, 3) := by decide +kernel
theorem dX4_arrives_5 : decode cX4_arrives 5 = .ok (.astore 4, 2) := by decide +kernel
theorem dX4_arrives_7 : decode cX4_arrives 7 = .ok (.aload 4, 2) := by decide +kernel
theorem dX4_arrives_9 : decode cX4_arrives 9 = .ok (.getfield 89, 3) := by decide +kernel
theorem dX4_arrives_12 : decode cX4_arrives 12 = .ok (.iload_n 2, 1) := by decide +kernel
theorem dX4_arrives_13 : decode cX4_arrives 13 = .ok (.invokestatic 64, 3) := by decide +kernel
theorem dX4_arrives_16 : decode cX4_arrives 16 = .ok (.iload_n 3, 1) := by decide +kernel
theorem dX4_arrives_17 : decode cX4_arrives 17 = .ok (.invokestatic 114, 3) := by decide +kernel
theorem dX4_arrives_20 : decode cX4_arrives 20 = .ok (.iload_n 3, 1) := by decide +kernel
theorem dX4_arrives_21 : decode cX4_arrives 21 = .ok (.aload 4, 2) := by decide +kernel
theorem dX4_arrives_23 : decode cX4_arrives 23 = .ok (.getfield 97, 3) := by decide +kernel
theorem dX4_arrives_26 : decode cX4_arrives 26 = .ok (.aload 4, 2) := by decide +kernel
theorem dX4_arrives_28 : decode cX4_arrives 28 = .ok (.getfield 89, 3) := by decide +kernel
theorem dX4_arrives_31 : decode cX4_arrives 31 = .ok (.invokevirtual 121, 3) := by decide +kernel
theorem dX4_arrives_34 : decode cX4_arrives 34 = .ok (.invokestatic 148, 3) := by decide +kernel
theorem dX4_arrives_37 : decode cX4_arrives 37 = .ok (.istore 5, 2) := by decide +kernel
theorem dX4_arrives_39 : decode cX4_arrives 39 = .ok (.aload_n 0, 1) := by decide +kernel
theorem dX4_arrives_40 : decode cX4_arrives 40 = .ok (.getfield 24, 3) := by decide +kernel
theorem dX4_arrives_43 : decode cX4_arrives 43 = .ok (.aload 4, 2) := by decide +kernel
theorem dX4_arrives_45 : decode cX4_arrives 45 = .ok (.getfield 97, 3) := by decide +kernel
theorem dX4_arrives_48 : decode cX4_arrives 48 = .ok (.invokevirtual 154, 3) := by decide +kernel
theorem dX4_arrives_51 : decode cX4_arrives 51 = .ok (.iconst 0, 1) := by decide +kernel
theorem dX4_arrives_52 : decode cX4_arrives 52 = .ok (.istore 6, 2) := by decide +kernel
theorem dX4_arrives_54 : decode cX4_arrives 54 = .ok (.iload 6, 2) := by decide +kernel
theorem dX4_arrives_56 : decode cX4_arrives 56 = .ok (.iload 5, 2) := by decide +kernel
theorem dX4_arrives_58 : decode cX4_arrives 58 = .ok (.if_icmp .gt 40, 3) := by decide +kernel
theorem dX4_arrives_61 : decode cX4_arrives 61 = .ok (.iload 6, 2) := by decide +kernel
theorem dX4_arrives_63 : decode cX4_arrives 63 = .ok (.ifCond .le 15, 3) := by decide +kernel
theorem dX4_arrives_66 : decode cX4_arrives 66 = .ok (.aload_n 0, 1) := by decide +kernel
theorem dX4_arrives_67 : decode cX4_arrives 67 = .ok (.getfield 24, 3) := by decide +kernel
theorem dX4_arrives_70 : decode cX4_arrives 70 = .ok (.aload 4, 2) := by decide +kernel
theorem dX4_arrives_72 : decode cX4_arrives 72 = .ok (.getfield 89, 3) := by decide +kernel
theorem dX4_arrives_75 : decode cX4_arrives 75 = .ok (.invokevirtual 125, 3) := by decide +kernel
theorem dX4_arrives_78 : decode cX4_arrives 78 = .ok (.aload_n 0, 1) := by decide +kernel
theorem dX4_arrives_79 : decode cX4_arrives 79 = .ok (.getfield 24, 3) := by decide +kernel
theorem dX4_arrives_82 : decode cX4_arrives 82 = .ok (.iload_n 2, 1) := by decide +kernel
theorem dX4_arrives_83 : decode cX4_arrives 83 = .ok (.invokevirtual 158, 3) := by decide +kernel
theorem dX4_arrives_86 : decode cX4_arrives 86 = .ok (.ifCond .eq 6, 3) := by decide +kernel
theorem dX4_arrives_89 : decode cX4_arrives 89 = .ok (.iload 6, 2) := by decide +kernel
theorem dX4_arrives_91 : decode cX4_arrives 91 = .ok (.ireturn, 1) := by decide +kernel
theorem dX4_arrives_92 : decode cX4_arrives 92 = .ok (.iinc 6 1, 3) := by decide +kernel
theorem dX4_arrives_95 : decode cX4_arrives 95 = .ok (.goto (-41), 3) := by decide +kernel
theorem dX4_arrives_98 : decode cX4_arrives 98 = .ok (.iconst (-1), 1) := by decide +kernel
theorem dX4_arrives_99 : decode cX4_arrives 99 = .ok (.ireturn, 1) := by decide +kernel
set_option maxRecDepth 20000 in
theorem ggX4_returns_X4_walkOf : GoodIn wsX4_returns wsX4_walkOf := goodIn_ca (goodIn_r _ [12, 13, 14, 15, 75, 76, 77, 78, 79, 80] (by decide +kernel) (by decide +kernel)) (goodIn_sub (fun _ h => List.mem_cons_of_mem _ (List.mem_append_left _ (List.mem_append_right _ h))) (by decide +kernel))
set_option maxRecDepth 20000 in
theorem gX4_returns_X4_walkOf : GoodIn wsX4_returns (wsV RX4 85 RX4 yX4_walkOf wsX4_walkOf) := goodIn_app (goodIn_of _ (by decide +kernel)) ggX4_returns_X4_walkOf
set_option maxRecDepth 20000 in
theorem ggX4_returns_X4_needSteps : GoodIn wsX4_returns wsX4_needSteps := goodIn_ca (goodIn_r _ [18, 19, 20] (by decide +kernel) (by decide +kernel)) (goodIn_sub (fun _ h => List.mem_cons_of_mem _ (List.mem_append_right _ h)) (by decide +kernel))
set_option maxRecDepth 20000 in
theorem gX4_returns_X4_needSteps : GoodIn wsX4_returns (va_wsS RX4 114 yX4_needSteps wsX4_needSteps) := goodIn_app (goodIn_of _ (by decide +kernel)) ggX4_returns_X4_needSteps
set_option maxRecDepth 20000 in
theorem ggX4_returns_X3_stepsLeft : GoodIn wsX4_returns wsX3_stepsLeft := goodIn_r _ [25, 26, 27, 28, 29, 30, 31, 24, 32, 33, 34, 35, 36, 37, 81, 82, 83, 84, 85, 86, 87, 88, 89] (by decide +kernel) (by decide +kernel)
set_option maxRecDepth 20000 in
theorem gX4_returns_X3_stepsLeft : GoodIn wsX4_returns (wsV RX4 121 RX3 yX3_stepsLeft wsX3_stepsLeft) := goodIn_app (goodIn_of _ (by decide +kernel)) ggX4_returns_X3_stepsLeft
set_option maxRecDepth 20000 in
theorem ggX4_returns_X3_becomeLike : GoodIn wsX4_returns wsX3_becomeLike := goodIn_r _ [41, 37, 42, 43, 44, 45, 26, 81, 82] (by decide +kernel) (by decide +kernel)
set_option maxRecDepth 20000 in
theorem gX4_returns_X3_becomeLike : GoodIn wsX4_returns (wsV RX4 154 RX3 yX3_becomeLike wsX3_becomeLike) := goodIn_app (goodIn_of _ (by decide +kernel)) ggX4_returns_X3_becomeLike
set_option maxRecDepth 20000 in
theorem ggX4_returns_X3_doStep : GoodIn wsX4_returns wsX3_doStep := goodIn_r _ [49, 50, 51, 26, 52, 53, 54, 24, 55, 56, 37, 57, 58, 59, 60, 61, 62, 63, 64, 65, 66, 67, 83, 84, 85, 86, 87, 88, 89, 81, 82] (by decide +kernel) (by decide +kernel)
set_option maxRecDepth 20000 in
theorem gX4_returns_X3_doStep : GoodIn wsX4_returns (wsV RX4 125 RX3 yX3_doStep wsX3_doStep) := goodIn_app (goodIn_of _ (by decide +kernel)) ggX4_returns_X3_doStep
set_option maxRecDepth 20000 in
theorem ggX4_returns_X3_isMultipleOf : GoodIn wsX4_returns wsX3_isMultipleOf := goodIn_r _ [71, 37, 81, 82] (by decide +kernel) (by decide +kernel)
set_option maxRecDepth 20000 in
theorem gX4_returns_X3_isMultipleOf : GoodIn wsX4_returns (wsV RX4 161 RX3 yX3_isMultipleOf wsX3_isMultipleOf) := goodIn_app (goodIn_of _ (by decide +kernel)) ggX4_returns_X3_isMultipleOf
theorem dX4_returns_0 : decode cX4_returns 0 = .ok (.aload_n 0, 1) := by decide +kernel
theorem dX4_returns_1 : decode cX4_returns 1 = .ok (.iload_n 1, 1) := by decide +kernel
theorem dX4_returns_2 : decode cX4_returns 2 = .ok (.invokevirtual 85, 3) := by decide +kernel
theorem dX4_returns_5 : decode cX4_returns 5 = .ok (.astore_n 3, 1) := by decide +kernel
theorem dX4_returns_6 : decode cX4_returns 6 = .ok (.iload_n 2, 1) := by decide +kernel
theorem dX4_returns_7 : decode cX4_returns 7 = .ok (.invokestatic 114, 3) := by decide +kernel
theorem dX4_returns_10 : decode cX4_returns 10 = .ok (.iload_n 2, 1) := by decide +kernel
theorem dX4_returns_11 : decode cX4_returns 11 = .ok (.aload_n 3, 1) := by decide +kernel
theorem dX4_returns_12 : decode cX4_returns 12 = .ok (.getfield 97, 3) := by decide +kernel
theorem dX4_returns_15 : decode cX4_returns 15 = .ok (.aload_n 3, 1) := by decide +kernel
theorem dX4_returns_16 : decode cX4_returns 16 = .ok (.getfield 89, 3) := by decide +kernel
theorem dX4_returns_19 : decode cX4_returns 19 = .ok (.invokevirtual 121, 3) := by decide +kernel
theorem dX4_returns_22 : decode cX4_returns 22 = .ok (.invokestatic 148, 3) := by decide +kernel
theorem dX4_returns_25 : decode cX4_returns 25 = .ok (.istore 4, 2) := by decide +kernel
theorem dX4_returns_27 : decode cX4_returns 27 = .ok (.aload_n 0, 1) := by decide +kernel
theorem dX4_returns_28 : decode cX4_returns 28 = .ok (.getfield 24, 3) := by decide +kernel
theorem dX4_returns_31 : decode cX4_returns 31 = .ok (.aload_n 3, 1) := by decide +kernel
theorem dX4_returns_32 : decode cX4_returns 32 = .ok (.getfield 97, 3) := by decide +kernel
theorem dX4_returns_35 : decode cX4_returns 35 = .ok (.invokevirtual 154, 3) := by decide +kernel
theorem dX4_returns_38 : decode cX4_returns 38 = .ok (.iconst 1, 1) := by decide +kernel
theorem dX4_returns_39 : decode cX4_returns 39 = .ok (.istore 5, 2) := by decide +kernel
theorem dX4_returns_41 : decode cX4_returns 41 = .ok (.iload 5, 2) := by decide +kernel
theorem dX4_returns_43 : decode cX4_returns 43 = .ok (.iload 4, 2) := by decide +kernel
theorem dX4_returns_45 : decode cX4_returns 45 = .ok (.if_icmp .gt 37, 3) := by decide +kernel
theorem dX4_returns_48 : decode cX4_returns 48 = .ok (.aload_n 0, 1) := by decide +kernel
theorem dX4_returns_49 : decode cX4_returns 49 = .ok (.getfield 24, 3) := by decide +kernel
theorem dX4_returns_52 : decode cX4_returns 52 = .ok (.aload_n 3, 1) := by decide +kernel
theorem dX4_returns_53 : decode cX4_returns 53 = .ok (.getfield 89, 3) := by decide +kernel
theorem dX4_returns_56 : decode cX4_returns 56 = .ok (.invokevirtual 125, 3) := by decide +kernel
theorem dX4_returns_59 : decode cX4_returns 59 = .ok (.aload_n 0, 1) := by decide +kernel
theorem dX4_returns_60 : decode cX4_returns 60 = .ok (.getfield 24, 3) := by decide +kernel
theorem dX4_returns_63 : decode cX4_returns 63 = .ok (.aload_n 3, 1) := by decide +kernel
theorem dX4_returns_64 : decode cX4_returns 64 = .ok (.getfield 97, 3) := by decide +kernel
theorem dX4_returns_67 : decode cX4_returns 67 = .ok (.invokevirtual 161, 3) := by decide +kernel
theorem dX4_returns_70 : decode cX4_returns 70 = .ok (.ifCond .eq 6, 3) := by decide +kernel
theorem dX4_returns_73 : decode cX4_returns 73 = .ok (.iload 5, 2) := by decide +kernel
theorem dX4_returns_75 : decode cX4_returns 75 = .ok (.ireturn, 1) := by decide +kernel
theorem dX4_returns_76 : decode cX4_returns 76 = .ok (.iinc 5 1, 3) := by decide +kernel
theorem dX4_returns_79 : decode cX4_returns 79 = .ok (.goto (-38), 3) := by decide +kernel
theorem dX4_returns_82 : decode cX4_returns 82 = .ok (.iconst (-1), 1) := by decide +kernel
theorem dX4_returns_83 : decode cX4_returns 83 = .ok (.ireturn, 1) := by decide +kernel
set_option maxRecDepth 20000 in
theorem ggX4_best_X4_walkOf : GoodIn wsX4_best wsX4_walkOf := goodIn_ca (goodIn_r _ [13, 14, 15, 16, 77, 78, 79, 80, 81, 82] (by decide +kernel) (by decide +kernel)) (goodIn_sub (fun _ h => List.mem_cons_of_mem _ (List.mem_append_left _ (List.mem_append_right _ h))) (by decide +kernel))
set_option maxRecDepth 20000 in
theorem gX4_best_X4_walkOf : GoodIn wsX4_best (wsV RX4 85 RX4 yX4_walkOf wsX4_walkOf) := goodIn_app (goodIn_of _ (by decide +kernel)) ggX4_best_X4_walkOf
set_option maxRecDepth 20000 in
theorem ggX4_best_X4_needSteps : GoodIn wsX4_best wsX4_needSteps := goodIn_ca (goodIn_r _ [19, 20, 21] (by decide +kernel) (by decide +kernel)) (goodIn_sub (fun _ h => List.mem_cons_of_mem _ (List.mem_append_right _ h)) (by decide +kernel))
set_option maxRecDepth 20000 in
theorem gX4_best_X4_needSteps : GoodIn wsX4_best (va_wsS RX4 114 yX4_needSteps wsX4_needSteps) := goodIn_app (goodIn_of _ (by decide +kernel)) ggX4_best_X4_needSteps
set_option maxRecDepth 20000 in
theorem ggX4_best_X3_squares : GoodIn wsX4_best wsX3_squares := goodIn_r _ [26, 27, 28, 29, 25, 30, 31, 90, 91] (by decide +kernel) (by decide +kernel)
set_option maxRecDepth 20000 in
theorem gX4_best_X3_squares : GoodIn wsX4_best (wsV RX4 117 RX3 yX3_squares wsX3_squares) := goodIn_app (goodIn_of _ (by decide +kernel)) ggX4_best_X3_squares
set_option maxRecDepth 20000 in
theorem ggX4_best_X3_stepsLeft : GoodIn wsX4_best wsX3_stepsLeft := goodIn_r _ [35, 36, 37, 38, 39, 23, 24, 25, 26, 27, 28, 29, 30, 31, 90, 91, 83, 84, 85, 86, 87, 88, 89] (by decide +kernel) (by decide +kernel)
set_option maxRecDepth 20000 in
theorem gX4_best_X3_stepsLeft : GoodIn wsX4_best (wsV RX4 121 RX3 yX3_stepsLeft wsX3_stepsLeft) := goodIn_app (goodIn_of _ (by decide +kernel)) ggX4_best_X3_stepsLeft
set_option maxRecDepth 20000 in
theorem ggX4_best_X3_becomeLike : GoodIn wsX4_best wsX3_becomeLike := goodIn_r _ [43, 31, 44, 45, 46, 47, 36, 90, 91] (by decide +kernel) (by decide +kernel)
set_option maxRecDepth 20000 in
theorem gX4_best_X3_becomeLike : GoodIn wsX4_best (wsV RX4 154 RX3 yX3_becomeLike wsX3_becomeLike) := goodIn_app (goodIn_of _ (by decide +kernel)) ggX4_best_X3_becomeLike
set_option maxRecDepth 20000 in
theorem ggX4_best_X3_squaresAtMarked : GoodIn wsX4_best wsX3_squaresAtMarked := goodIn_r _ [51, 52, 53, 27, 28, 29, 25, 30, 31, 83, 84, 85, 86, 87, 88, 89, 90, 91] (by decide +kernel) (by decide +kernel)
set_option maxRecDepth 20000 in
theorem gX4_best_X3_squaresAtMarked : GoodIn wsX4_best (wsV RX4 165 RX3 yX3_squaresAtMarked wsX3_squaresAtMarked) := goodIn_app (goodIn_of _ (by decide +kernel)) ggX4_best_X3_squaresAtMarked
set_option maxRecDepth 20000 in
theorem ggX4_best_X3_doStep : GoodIn wsX4_best wsX3_doStep := goodIn_r _ [57, 52, 58, 36, 59, 60, 61, 25, 62, 53, 31, 63, 64, 65, 66, 67, 68, 69, 70, 71, 72, 73, 83, 84, 85, 86, 87, 88, 89, 90, 91] (by decide +kernel) (by decide +kernel)
set_option maxRecDepth 20000 in
theorem gX4_best_X3_doStep : GoodIn wsX4_best (wsV RX4 125 RX3 yX3_doStep wsX3_doStep) := goodIn_app (goodIn_of _ (by decide +kernel)) ggX4_best_X3_doStep
theorem dX4_best_0 : decode cX4_best 0 = .ok (.aload_n 0, 1) := by decide +kernel
theorem dX4_best_1 : decode cX4_best 1 = .ok (.iload_n 1, 1) := by decide +kernel
theorem dX4_best_2 : decode cX4_best 2 = .ok (.invokevirtual 85, 3) := by decide +kernel
theorem dX4_best_5 : decode cX4_best 5 = .ok (.astore_n 3, 1) := by decide +kernel
theorem dX4_best_6 : decode cX4_best 6 = .ok (.iload_n 2, 1) := by decide +kernel
theorem dX4_best_7 : decode cX4_best 7 = .ok (.invokestatic 114, 3) := by decide +kernel
theorem dX4_best_10 : decode cX4_best 10 = .ok (.aload_n 3, 1) := by decide +kernel
theorem dX4_best_11 : decode cX4_best 11 = .ok (.getfield 97, 3) := by decide +kernel
theorem dX4_best_14 : decode cX4_best 14 = .ok (.invokevirtual 117, 3) := by decide +kernel
theorem dX4_best_17 : decode cX4_best 17 = .ok (.lconst 0, 1) := by decide +kernel
theorem dX4_best_18 : decode cX4_best 18 = .ok (.lcmp, 1) := by decide +kernel
theorem dX4_best_19 : decode cX4_best 19 = .ok (.ifCond .ne 5, 3) := by decide +kernel
theorem dX4_best_22 : decode cX4_best 22 = .ok (.iconst (-1), 1) := by decide +kernel
theorem dX4_best_23 : decode cX4_best 23 = .ok (.ireturn, 1) := by decide +kernel
theorem dX4_best_24 : decode cX4_best 24 = .ok (.iload_n 2, 1) := by decide +kernel
theorem dX4_best_25 : decode cX4_best 25 = .ok (.aload_n 3, 1) := by decide +kernel
theorem dX4_best_26 : decode cX4_best 26 = .ok (.getfield 97, 3) := by decide +kernel
theorem dX4_best_29 : decode cX4_best 29 = .ok (.aload_n 3, 1) := by decide +kernel
theorem dX4_best_30 : decode cX4_best 30 = .ok (.getfield 89, 3) := by decide +kernel
theorem dX4_best_33 : decode cX4_best 33 = .ok (.invokevirtual 121, 3) := by decide +kernel
theorem dX4_best_36 : decode cX4_best 36 = .ok (.invokestatic 148, 3) := by decide +kernel
theorem dX4_best_39 : decode cX4_best 39 = .ok (.istore 4, 2) := by decide +kernel
theorem dX4_best_41 : decode cX4_best 41 = .ok (.aload_n 0, 1) := by decide +kernel
theorem dX4_best_42 : decode cX4_best 42 = .ok (.getfield 24, 3) := by decide +kernel
theorem dX4_best_45 : decode cX4_best 45 = .ok (.aload_n 3, 1) := by decide +kernel
theorem dX4_best_46 : decode cX4_best 46 = .ok (.getfield 97, 3) := by decide +kernel
theorem dX4_best_49 : decode cX4_best 49 = .ok (.invokevirtual 154, 3) := by decide +kernel
theorem dX4_best_52 : decode cX4_best 52 = .ok (.iconst 0, 1) := by decide +kernel
theorem dX4_best_53 : decode cX4_best 53 = .ok (.istore 5, 2) := by decide +kernel
theorem dX4_best_55 : decode cX4_best 55 = .ok (.aload_n 0, 1) := by decide +kernel
theorem dX4_best_56 : decode cX4_best 56 = .ok (.getfield 24, 3) := by decide +kernel
theorem dX4_best_59 : decode cX4_best 59 = .ok (.aload_n 3, 1) := by decide +kernel
theorem dX4_best_60 : decode cX4_best 60 = .ok (.getfield 89, 3) := by decide +kernel
theorem dX4_best_63 : decode cX4_best 63 = .ok (.invokevirtual 165, 3) := by decide +kernel
theorem dX4_best_66 : decode cX4_best 66 = .ok (.lstore 6, 2) := by decide +kernel
theorem dX4_best_68 : decode cX4_best 68 = .ok (.iconst 1, 1) := by decide +kernel
theorem dX4_best_69 : decode cX4_best 69 = .ok (.istore 8, 2) := by decide +kernel
theorem dX4_best_71 : decode cX4_best 71 = .ok (.iload 8, 2) := by decide +kernel
theorem dX4_best_73 : decode cX4_best 73 = .ok (.iload 4, 2) := by decide +kernel
theorem dX4_best_75 : decode cX4_best 75 = .ok (.if_icmp .gt 62, 3) := by decide +kernel
theorem dX4_best_78 : decode cX4_best 78 = .ok (.aload_n 0, 1) := by decide +kernel
theorem dX4_best_79 : decode cX4_best 79 = .ok (.getfield 24, 3) := by decide +kernel
theorem dX4_best_82 : decode cX4_best 82 = .ok (.aload_n 3, 1) := by decide +kernel
theorem dX4_best_83 : decode cX4_best 83 = .ok (.getfield 89, 3) := by decide +kernel
theorem dX4_best_86 : decode cX4_best 86 = .ok (.invokevirtual 125, 3) := by decide +kernel
theorem dX4_best_89 : decode cX4_best 89 = .ok (.lload 6, 2) := by decide +kernel
theorem dX4_best_91 : decode cX4_best 91 = .ok (.aload_n 3, 1) := by decide +kernel
theorem dX4_best_92 : decode cX4_best 92 = .ok (.getfield 89, 3) := by decide +kernel
theorem dX4_best_95 : decode cX4_best 95 = .ok (.getfield 138, 3) := by decide +kernel
theorem dX4_best_98 : decode cX4_best 98 = .ok (.i2l, 1) := by decide +kernel
theorem dX4_best_99 : decode cX4_best 99 = .ok (.lmul, 1) := by decide +kernel
theorem dX4_best_100 : decode cX4_best 100 = .ok (.lstore 6, 2) := by decide +kernel
theorem dX4_best_102 : decode cX4_best 102 = .ok (.aload_n 0, 1) := by decide +kernel
theorem dX4_best_103 : decode cX4_best 103 = .ok (.getfield 24, 3) := by decide +kernel
theorem dX4_best_106 : decode cX4_best 106 = .ok (.aload_n 3, 1) := by decide +kernel
theorem dX4_best_107 : decode cX4_best 107 = .ok (.getfield 89, 3) := by decide +kernel
theorem dX4_best_110 : decode cX4_best 110 = .ok (.invokevirtual 165, 3) := by decide +kernel
theorem dX4_best_113 : decode cX4_best 113 = .ok (.lstore 9, 2) := by decide +kernel
theorem dX4_best_115 : decode cX4_best 115 = .ok (.lload 9, 2) := by decide +kernel
theorem dX4_best_117 : decode cX4_best 117 = .ok (.lload 6, 2) := by decide +kernel
theorem dX4_best_119 : decode cX4_best 119 = .ok (.lcmp, 1) := by decide +kernel
theorem dX4_best_120 : decode cX4_best 120 = .ok (.ifCond .le 11, 3) := by decide +kernel
theorem dX4_best_123 : decode cX4_best 123 = .ok (.lload 9, 2) := by decide +kernel
theorem dX4_best_125 : decode cX4_best 125 = .ok (.lstore 6, 2) := by decide +kernel
theorem dX4_best_127 : decode cX4_best 127 = .ok (.iload 8, 2) := by decide +kernel
theorem dX4_best_129 : decode cX4_best 129 = .ok (.istore 5, 2) := by decide +kernel
theorem dX4_best_131 : decode cX4_best 131 = .ok (.iinc 8 1, 3) := by decide +kernel
theorem dX4_best_134 : decode cX4_best 134 = .ok (.goto (-63), 3) := by decide +kernel
theorem dX4_best_137 : decode cX4_best 137 = .ok (.iload 5, 2) := by decide +kernel
theorem dX4_best_139 : decode cX4_best 139 = .ok (.ireturn, 1) := by decide +kernel
set_option maxRecDepth 20000 in
theorem ggX4_mean_X4_walkOf : GoodIn wsX4_mean wsX4_walkOf := goodIn_ca (goodIn_r _ [12, 13, 14, 15, 76, 77, 78, 79, 80, 81] (by decide +kernel) (by decide +kernel)) (goodIn_sub (fun _ h => List.mem_cons_of_mem _ (List.mem_append_left _ (List.mem_append_right _ h))) (by decide +kernel))
set_option maxRecDepth 20000 in
theorem gX4_mean_X4_walkOf : GoodIn wsX4_mean (wsV RX4 85 RX4 yX4_walkOf wsX4_walkOf) := goodIn_app (goodIn_of _ (by decide +kernel)) ggX4_mean_X4_walkOf
set_option maxRecDepth 20000 in
theorem ggX4_mean_X4_needPlace : GoodIn wsX4_mean wsX4_needPlace := goodIn_ca (goodIn_r _ [18, 13, 14, 19, 82, 83, 84, 85, 86, 87, 88] (by decide +kernel) (by decide +kernel)) (goodIn_sub (fun _ h => List.mem_cons_of_mem _ (List.mem_append_left _ (List.mem_append_right _ h))) (by decide +kernel))
set_option maxRecDepth 20000 in
theorem gX4_mean_X4_needPlace : GoodIn wsX4_mean (va_wsS RX4 64 yX4_needPlace wsX4_needPlace) := goodIn_app (goodIn_of _ (by decide +kernel)) ggX4_mean_X4_needPlace
set_option maxRecDepth 20000 in
theorem ggX4_mean_X4_needSteps : GoodIn wsX4_mean wsX4_needSteps := goodIn_ca (goodIn_r _ [22, 23, 24] (by decide +kernel) (by decide +kernel)) (goodIn_sub (fun _ h => List.mem_cons_of_mem _ (List.mem_append_right _ h)) (by decide +kernel))
set_option maxRecDepth 20000 in
theorem gX4_mean_X4_needSteps : GoodIn wsX4_mean (va_wsS RX4 114 yX4_needSteps wsX4_needSteps) := goodIn_app (goodIn_of _ (by decide +kernel)) ggX4_mean_X4_needSteps
set_option maxRecDepth 20000 in
theorem ggX4_mean_X3_stepsLeft : GoodIn wsX4_mean wsX3_stepsLeft := goodIn_r _ [29, 30, 31, 32, 33, 34, 35, 28, 36, 37, 38, 39, 40, 41, 89, 90, 82, 83, 84, 85, 86, 87, 88] (by decide +kernel) (by decide +kernel)
set_option maxRecDepth 20000 in
theorem gX4_mean_X3_stepsLeft : GoodIn wsX4_mean (wsV RX4 121 RX3 yX3_stepsLeft wsX3_stepsLeft) := goodIn_app (goodIn_of _ (by decide +kernel)) ggX4_mean_X3_stepsLeft
set_option maxRecDepth 20000 in
theorem ggX4_mean_X3_becomeLike : GoodIn wsX4_mean wsX3_becomeLike := goodIn_r _ [45, 41, 46, 47, 48, 49, 30, 89, 90] (by decide +kernel) (by decide +kernel)
set_option maxRecDepth 20000 in
theorem gX4_mean_X3_becomeLike : GoodIn wsX4_mean (wsV RX4 154 RX3 yX3_becomeLike wsX3_becomeLike) := goodIn_app (goodIn_of _ (by decide +kernel)) ggX4_mean_X3_becomeLike
set_option maxRecDepth 20000 in
theorem ggX4_mean_X3_squaresAt : GoodIn wsX4_mean wsX3_squaresAt := goodIn_r _ [40, 41, 89, 90] (by decide +kernel) (by decide +kernel)
set_option maxRecDepth 20000 in
theorem gX4_mean_X3_squaresAt : GoodIn wsX4_mean (wsV RX4 131 RX3 yX3_squaresAt wsX3_squaresAt) := goodIn_app (goodIn_of _ (by decide +kernel)) ggX4_mean_X3_squaresAt
set_option maxRecDepth 20000 in
theorem ggX4_mean_X3_doStep : GoodIn wsX4_mean wsX3_doStep := goodIn_r _ [54, 55, 56, 30, 57, 58, 59, 28, 60, 61, 41, 62, 63, 64, 65, 66, 67, 68, 69, 70, 71, 72, 82, 83, 84, 85, 86, 87, 88, 89, 90] (by decide +kernel) (by decide +kernel)
set_option maxRecDepth 20000 in
theorem gX4_mean_X3_doStep : GoodIn wsX4_mean (wsV RX4 125 RX3 yX3_doStep wsX3_doStep) := goodIn_app (goodIn_of _ (by decide +kernel)) ggX4_mean_X3_doStep
theorem dX4_mean_0 : decode cX4_mean 0 = .ok (.aload_n 0, 1) := by decide +kernel
theorem dX4_mean_1 : decode cX4_mean 1 = .ok (.iload_n 1, 1) := by decide +kernel
theorem dX4_mean_2 : decode cX4_mean 2 = .ok (.invokevirtual 85, 3) := by decide +kernel
theorem dX4_mean_5 : decode cX4_mean 5 = .ok (.astore 4, 2) := by decide +kernel
theorem dX4_mean_7 : decode cX4_mean 7 = .ok (.aload 4, 2) := by decide +kernel
theorem dX4_mean_9 : decode cX4_mean 9 = .ok (.getfield 89, 3) := by decide +kernel
theorem dX4_mean_12 : decode cX4_mean 12 = .ok (.iload_n 2, 1) := by decide +kernel
theorem dX4_mean_13 : decode cX4_mean 13 = .ok (.invokestatic 64, 3) := by decide +kernel
theorem dX4_mean_16 : decode cX4_mean 16 = .ok (.iload_n 3, 1) := by decide +kernel
theorem dX4_mean_17 : decode cX4_mean 17 = .ok (.invokestatic 114, 3) := by decide +kernel
theorem dX4_mean_20 : decode cX4_mean 20 = .ok (.iload_n 3, 1) := by decide +kernel
theorem dX4_mean_21 : decode cX4_mean 21 = .ok (.aload 4, 2) := by decide +kernel
theorem dX4_mean_23 : decode cX4_mean 23 = .ok (.getfield 97, 3) := by decide +kernel
theorem dX4_mean_26 : decode cX4_mean 26 = .ok (.aload 4, 2) := by decide +kernel
theorem dX4_mean_28 : decode cX4_mean 28 = .ok (.getfield 89, 3) := by decide +kernel
theorem dX4_mean_31 : decode cX4_mean 31 = .ok (.invokevirtual 121, 3) := by decide +kernel
theorem dX4_mean_34 : decode cX4_mean 34 = .ok (.if_icmp .le 7, 3) := by decide +kernel
theorem dX4_mean_37 : decode cX4_mean 37 = .ok (.ldc2_w 169, 3) := by decide +kernel
theorem dX4_mean_40 : decode cX4_mean 40 = .ok (.lreturn, 1) := by decide +kernel
theorem dX4_mean_41 : decode cX4_mean 41 = .ok (.aload_n 0, 1) := by decide +kernel
theorem dX4_mean_42 : decode cX4_mean 42 = .ok (.getfield 24, 3) := by decide +kernel
theorem dX4_mean_45 : decode cX4_mean 45 = .ok (.aload 4, 2) := by decide +kernel
theorem dX4_mean_47 : decode cX4_mean 47 = .ok (.getfield 97, 3) := by decide +kernel
theorem dX4_mean_50 : decode cX4_mean 50 = .ok (.invokevirtual 154, 3) := by decide +kernel
theorem dX4_mean_53 : decode cX4_mean 53 = .ok (.aload_n 0, 1) := by decide +kernel
theorem dX4_mean_54 : decode cX4_mean 54 = .ok (.getfield 24, 3) := by decide +kernel
theorem dX4_mean_57 : decode cX4_mean 57 = .ok (.iload_n 2, 1) := by decide +kernel
theorem dX4_mean_58 : decode cX4_mean 58 = .ok (.invokevirtual 131, 3) := by decide +kernel
theorem dX4_mean_61 : decode cX4_mean 61 = .ok (.lstore 5, 2) := by decide +kernel
theorem dX4_mean_63 : decode cX4_mean 63 = .ok (.iconst 1, 1) := by decide +kernel
theorem dX4_mean_64 : decode cX4_mean 64 = .ok (.istore 7, 2) := by decide +kernel
theorem dX4_mean_66 : decode cX4_mean 66 = .ok (.iload 7, 2) := by decide +kernel
theorem dX4_mean_68 : decode cX4_mean 68 = .ok (.iload_n 3, 1) := by decide +kernel
theorem dX4_mean_69 : decode cX4_mean 69 = .ok (.if_icmp .gt 88, 3) := by decide +kernel
theorem dX4_mean_72 : decode cX4_mean 72 = .ok (.aload_n 0, 1) := by decide +kernel
theorem dX4_mean_73 : decode cX4_mean 73 = .ok (.getfield 24, 3) := by decide +kernel
theorem dX4_mean_76 : decode cX4_mean 76 = .ok (.aload 4, 2) := by decide +kernel
theorem dX4_mean_78 : decode cX4_mean 78 = .ok (.getfield 89, 3) := by decide +kernel
theorem dX4_mean_81 : decode cX4_mean 81 = .ok (.invokevirtual 125, 3) := by decide +kernel
theorem dX4_mean_84 : decode cX4_mean 84 = .ok (.aload_n 0, 1) := by decide +kernel
theorem dX4_mean_85 : decode cX4_mean 85 = .ok (.getfield 24, 3) := by decide +kernel
theorem dX4_mean_88 : decode cX4_mean 88 = .ok (.iload_n 2, 1) := by decide +kernel
theorem dX4_mean_89 : decode cX4_mean 89 = .ok (.invokevirtual 131, 3) := by decide +kernel
theorem dX4_mean_92 : decode cX4_mean 92 = .ok (.lstore 8, 2) := by decide +kernel
theorem dX4_mean_94 : decode cX4_mean 94 = .ok (.lload 5, 2) := by decide +kernel
theorem dX4_mean_96 : decode cX4_mean 96 = .ok (.aload 4, 2) := by decide +kernel
theorem dX4_mean_98 : decode cX4_mean 98 = .ok (.getfield 89, 3) := by decide +kernel
theorem dX4_mean_101 : decode cX4_mean 101 = .ok (.getfield 171, 3) := by decide +kernel
theorem dX4_mean_104 : decode cX4_mean 104 = .ok (.lcmp, 1) := by decide +kernel
theorem dX4_mean_105 : decode cX4_mean 105 = .ok (.ifCond .gt 25, 3) := by decide +kernel
theorem dX4_mean_108 : decode cX4_mean 108 = .ok (.lload 5, 2) := by decide +kernel
theorem dX4_mean_110 : decode cX4_mean 110 = .ok (.aload 4, 2) := by decide +kernel
theorem dX4_mean_112 : decode cX4_mean 112 = .ok (.getfield 89, 3) := by decide +kernel
theorem dX4_mean_115 : decode cX4_mean 115 = .ok (.getfield 138, 3) := by decide +kernel
theorem dX4_mean_118 : decode cX4_mean 118 = .ok (.i2l, 1) := by decide +kernel
theorem dX4_mean_119 : decode cX4_mean 119 = .ok (.lmul, 1) := by decide +kernel
theorem dX4_mean_120 : decode cX4_mean 120 = .ok (.ldc2_w 175, 3) := by decide +kernel
theorem dX4_mean_123 : decode cX4_mean 123 = .ok (.lload 8, 2) := by decide +kernel
theorem dX4_mean_125 : decode cX4_mean 125 = .ok (.lsub, 1) := by decide +kernel
theorem dX4_mean_126 : decode cX4_mean 126 = .ok (.lcmp, 1) := by decide +kernel
theorem dX4_mean_127 : decode cX4_mean 127 = .ok (.ifCond .le 7, 3) := by decide +kernel
theorem dX4_mean_130 : decode cX4_mean 130 = .ok (.ldc2_w 169, 3) := by decide +kernel
theorem dX4_mean_133 : decode cX4_mean 133 = .ok (.lreturn, 1) := by decide +kernel
theorem dX4_mean_134 : decode cX4_mean 134 = .ok (.lload 5, 2) := by decide +kernel
theorem dX4_mean_136 : decode cX4_mean 136 = .ok (.aload 4, 2) := by decide +kernel
theorem dX4_mean_138 : decode cX4_mean 138 = .ok (.getfield 89, 3) := by decide +kernel
theorem dX4_mean_141 : decode cX4_mean 141 = .ok (.getfield 138, 3) := by decide +kernel
theorem dX4_mean_144 : decode cX4_mean 144 = .ok (.i2l, 1) := by decide +kernel
theorem dX4_mean_145 : decode cX4_mean 145 = .ok (.lmul, 1) := by decide +kernel
theorem dX4_mean_146 : decode cX4_mean 146 = .ok (.lload 8, 2) := by decide +kernel
theorem dX4_mean_148 : decode cX4_mean 148 = .ok (.ladd, 1) := by decide +kernel
theorem dX4_mean_149 : decode cX4_mean 149 = .ok (.lstore 5, 2) := by decide +kernel
theorem dX4_mean_151 : decode cX4_mean 151 = .ok (.iinc 7 1, 3) := by decide +kernel
theorem dX4_mean_154 : decode cX4_mean 154 = .ok (.goto (-88), 3) := by decide +kernel
theorem dX4_mean_157 : decode cX4_mean 157 = .ok (.lload 5, 2) := by decide +kernel
theorem dX4_mean_159 : decode cX4_mean 159 = .ok (.lreturn, 1) := by decide +kernel
set_option maxRecDepth 20000 in
theorem ggX4_copy_X4_walkOf : GoodIn wsX4_copy wsX4_walkOf := goodIn_ca (goodIn_r _ [9, 10, 11, 12, 27, 28, 29, 30, 31, 32] (by decide +kernel) (by decide +kernel)) (goodIn_sub (fun _ h => List.mem_cons_of_mem _ (List.mem_append_right _ h)) (by decide +kernel))
set_option maxRecDepth 20000 in
theorem gX4_copy_X4_walkOf : GoodIn wsX4_copy (wsV RX4 85 RX4 yX4_walkOf wsX4_walkOf) := goodIn_app (goodIn_of _ (by decide +kernel)) ggX4_copy_X4_walkOf
set_option maxRecDepth 20000 in
theorem ggX4_copy_X3_becomeLike : GoodIn wsX4_copy wsX3_becomeLike := goodIn_r _ [17, 18, 19, 20, 21, 22, 23, 33, 34] (by decide +kernel) (by decide +kernel)
set_option maxRecDepth 20000 in
theorem gX4_copy_X3_becomeLike : GoodIn wsX4_copy (wsV RX4 154 RX3 yX3_becomeLike wsX3_becomeLike) := goodIn_app (goodIn_of _ (by decide +kernel)) ggX4_copy_X3_becomeLike
theorem dX4_copy_0 : decode cX4_copy 0 = .ok (.aload_n 0, 1) := by decide +kernel
theorem dX4_copy_1 : decode cX4_copy 1 = .ok (.iload_n 1, 1) := by decide +kernel
theorem dX4_copy_2 : decode cX4_copy 2 = .ok (.invokevirtual 85, 3) := by decide +kernel
theorem dX4_copy_5 : decode cX4_copy 5 = .ok (.astore_n 3, 1) := by decide +kernel
theorem dX4_copy_6 : decode cX4_copy 6 = .ok (.aload_n 0, 1) := by decide +kernel
theorem dX4_copy_7 : decode cX4_copy 7 = .ok (.iload_n 2, 1) := by decide +kernel
theorem dX4_copy_8 : decode cX4_copy 8 = .ok (.invokevirtual 85, 3) := by decide +kernel
theorem dX4_copy_11 : decode cX4_copy 11 = .ok (.astore 4, 2) := by decide +kernel
theorem dX4_copy_13 : decode cX4_copy 13 = .ok (.aload_n 3, 1) := by decide +kernel
theorem dX4_copy_14 : decode cX4_copy 14 = .ok (.getfield 135, 3) := by decide +kernel
theorem dX4_copy_17 : decode cX4_copy 17 = .ok (.aload 4, 2) := by decide +kernel
theorem dX4_copy_19 : decode cX4_copy 19 = .ok (.getfield 135, 3) := by decide +kernel
theorem dX4_copy_22 : decode cX4_copy 22 = .ok (.if_icmp .eq 13, 3) := by decide +kernel
theorem dX4_copy_25 : decode cX4_copy 25 = .ok (.new 177, 3) := by decide +kernel
theorem dX4_copy_28 : decode cX4_copy 28 = .ok (.dup, 1) := by decide +kernel
theorem dX4_copy_29 : decode cX4_copy 29 = .ok (.ldc 179, 2) := by decide +kernel
theorem dX4_copy_31 : decode cX4_copy 31 = .ok (.invokespecial 181, 3) := by decide +kernel
theorem dX4_copy_34 : decode cX4_copy 34 = .ok (.athrow, 1) := by decide +kernel
theorem dX4_copy_35 : decode cX4_copy 35 = .ok (.aload_n 3, 1) := by decide +kernel
theorem dX4_copy_36 : decode cX4_copy 36 = .ok (.getfield 97, 3) := by decide +kernel
theorem dX4_copy_39 : decode cX4_copy 39 = .ok (.aload 4, 2) := by decide +kernel
theorem dX4_copy_41 : decode cX4_copy 41 = .ok (.getfield 97, 3) := by decide +kernel
theorem dX4_copy_44 : decode cX4_copy 44 = .ok (.invokevirtual 154, 3) := by decide +kernel
theorem dX4_copy_47 : decode cX4_copy 47 = .ok (.return_, 1) := by decide +kernel
theorem dX4_count_0 : decode cX4_count 0 = .ok (.iload_n 1, 1) := by decide +kernel
theorem dX4_count_1 : decode cX4_count 1 = .ok (.lookupswitch 37 #[(0, 27), (1, 32)], 27) := by decide +kernel
theorem dX4_count_28 : decode cX4_count 28 = .ok (.aload_n 0, 1) := by decide +kernel
theorem dX4_count_29 : decode cX4_count 29 = .ok (.getfield 35, 3) := by decide +kernel
theorem dX4_count_32 : decode cX4_count 32 = .ok (.ireturn, 1) := by decide +kernel
theorem dX4_count_33 : decode cX4_count 33 = .ok (.aload_n 0, 1) := by decide +kernel
theorem dX4_count_34 : decode cX4_count 34 = .ok (.getfield 39, 3) := by decide +kernel
theorem dX4_count_37 : decode cX4_count 37 = .ok (.ireturn, 1) := by decide +kernel
theorem dX4_count_38 : decode cX4_count 38 = .ok (.new 141, 3) := by decide +kernel
theorem dX4_count_41 : decode cX4_count 41 = .ok (.dup, 1) := by decide +kernel
theorem dX4_count_42 : decode cX4_count 42 = .ok (.ldc 182, 2) := by decide +kernel
theorem dX4_count_44 : decode cX4_count 44 = .ok (.invokespecial 145, 3) := by decide +kernel
theorem dX4_count_47 : decode cX4_count 47 = .ok (.athrow, 1) := by decide +kernel
theorem dX4_netOf_0 : decode cX4_netOf 0 = .ok (.iload_n 1, 1) := by decide +kernel
theorem dX4_netOf_1 : decode cX4_netOf 1 = .ok (.ifCond .lt 21, 3) := by decide +kernel
theorem dX4_netOf_4 : decode cX4_netOf 4 = .ok (.iload_n 1, 1) := by decide +kernel
theorem dX4_netOf_5 : decode cX4_netOf 5 = .ok (.aload_n 0, 1) := by decide +kernel
theorem dX4_netOf_6 : decode cX4_netOf 6 = .ok (.getfield 11, 3) := by decide +kernel
theorem dX4_netOf_9 : decode cX4_netOf 9 = .ok (.arraylength, 1) := by decide +kernel
theorem dX4_netOf_10 : decode cX4_netOf 10 = .ok (.if_icmp .ge 12, 3) := by decide +kernel
theorem dX4_netOf_13 : decode cX4_netOf 13 = .ok (.aload_n 0, 1) := by decide +kernel
theorem dX4_netOf_14 : decode cX4_netOf 14 = .ok (.getfield 11, 3) := by decide +kernel
theorem dX4_netOf_17 : decode cX4_netOf 17 = .ok (.iload_n 1, 1) := by decide +kernel
theorem dX4_netOf_18 : decode cX4_netOf 18 = .ok (.aaload, 1) := by decide +kernel
theorem dX4_netOf_19 : decode cX4_netOf 19 = .ok (.goto 4, 3) := by decide +kernel
theorem dX4_netOf_22 : decode cX4_netOf 22 = .ok (.aconst_null, 1) := by decide +kernel
theorem dX4_netOf_23 : decode cX4_netOf 23 = .ok (.astore_n 2, 1) := by decide +kernel
theorem dX4_netOf_24 : decode cX4_netOf 24 = .ok (.aload_n 2, 1) := by decide +kernel
theorem dX4_netOf_25 : decode cX4_netOf 25 = .ok (.ifnonnull 13, 3) := by decide +kernel
theorem dX4_netOf_28 : decode cX4_netOf 28 = .ok (.new 141, 3) := by decide +kernel
theorem dX4_netOf_31 : decode cX4_netOf 31 = .ok (.dup, 1) := by decide +kernel
theorem dX4_netOf_32 : decode cX4_netOf 32 = .ok (.ldc 184, 2) := by decide +kernel
theorem dX4_netOf_34 : decode cX4_netOf 34 = .ok (.invokespecial 145, 3) := by decide +kernel
theorem dX4_netOf_37 : decode cX4_netOf 37 = .ok (.athrow, 1) := by decide +kernel
theorem dX4_netOf_38 : decode cX4_netOf 38 = .ok (.aload_n 2, 1) := by decide +kernel
theorem dX4_netOf_39 : decode cX4_netOf 39 = .ok (.areturn, 1) := by decide +kernel
theorem dX4_walkOf_0 : decode cX4_walkOf 0 = .ok (.iload_n 1, 1) := by decide +kernel
theorem dX4_walkOf_1 : decode cX4_walkOf 1 = .ok (.ifCond .lt 21, 3) := by decide +kernel
theorem dX4_walkOf_4 : decode cX4_walkOf 4 = .ok (.iload_n 1, 1) := by decide +kernel
theorem dX4_walkOf_5 : decode cX4_walkOf 5 = .ok (.aload_n 0, 1) := by decide +kernel
theorem dX4_walkOf_6 : decode cX4_walkOf 6 = .ok (.getfield 17, 3) := by decide +kernel
theorem dX4_walkOf_9 : decode cX4_walkOf 9 = .ok (.arraylength, 1) := by decide +kernel
theorem dX4_walkOf_10 : decode cX4_walkOf 10 = .ok (.if_icmp .ge 12, 3) := by decide +kernel
theorem dX4_walkOf_13 : decode cX4_walkOf 13 = .ok (.aload_n 0, 1) := by decide +kernel
theorem dX4_walkOf_14 : decode cX4_walkOf 14 = .ok (.getfield 17, 3) := by decide +kernel
theorem dX4_walkOf_17 : decode cX4_walkOf 17 = .ok (.iload_n 1, 1) := by decide +kernel
theorem dX4_walkOf_18 : decode cX4_walkOf 18 = .ok (.aaload, 1) := by decide +kernel
theorem dX4_walkOf_19 : decode cX4_walkOf 19 = .ok (.goto 4, 3) := by decide +kernel
theorem dX4_walkOf_22 : decode cX4_walkOf 22 = .ok (.aconst_null, 1) := by decide +kernel
theorem dX4_walkOf_23 : decode cX4_walkOf 23 = .ok (.astore_n 2, 1) := by decide +kernel
theorem dX4_walkOf_24 : decode cX4_walkOf 24 = .ok (.aload_n 2, 1) := by decide +kernel
theorem dX4_walkOf_25 : decode cX4_walkOf 25 = .ok (.ifnonnull 13, 3) := by decide +kernel
theorem dX4_walkOf_28 : decode cX4_walkOf 28 = .ok (.new 141, 3) := by decide +kernel
theorem dX4_walkOf_31 : decode cX4_walkOf 31 = .ok (.dup, 1) := by decide +kernel
theorem dX4_walkOf_32 : decode cX4_walkOf 32 = .ok (.ldc 186, 2) := by decide +kernel
theorem dX4_walkOf_34 : decode cX4_walkOf 34 = .ok (.invokespecial 145, 3) := by decide +kernel
theorem dX4_walkOf_37 : decode cX4_walkOf 37 = .ok (.athrow, 1) := by decide +kernel
theorem dX4_walkOf_38 : decode cX4_walkOf 38 = .ok (.aload_n 2, 1) := by decide +kernel
theorem dX4_walkOf_39 : decode cX4_walkOf 39 = .ok (.areturn, 1) := by decide +kernel
theorem dX4_needPlace_0 : decode cX4_needPlace 0 = .ok (.iload_n 1, 1) := by decide +kernel
theorem dX4_needPlace_1 : decode cX4_needPlace 1 = .ok (.ifCond .lt 11, 3) := by decide +kernel
theorem dX4_needPlace_4 : decode cX4_needPlace 4 = .ok (.iload_n 1, 1) := by decide +kernel
theorem dX4_needPlace_5 : decode cX4_needPlace 5 = .ok (.aload_n 0, 1) := by decide +kernel
theorem dX4_needPlace_6 : decode cX4_needPlace 6 = .ok (.getfield 188, 3) := by decide +kernel
theorem dX4_needPlace_9 : decode cX4_needPlace 9 = .ok (.if_icmp .lt 13, 3) := by decide +kernel
theorem dX4_needPlace_12 : decode cX4_needPlace 12 = .ok (.new 141, 3) := by decide +kernel
theorem dX4_needPlace_15 : decode cX4_needPlace 15 = .ok (.dup, 1) := by decide +kernel
theorem dX4_needPlace_16 : decode cX4_needPlace 16 = .ok (.ldc 191, 2) := by decide +kernel
theorem dX4_needPlace_18 : decode cX4_needPlace 18 = .ok (.invokespecial 145, 3) := by decide +kernel
theorem dX4_needPlace_21 : decode cX4_needPlace 21 = .ok (.athrow, 1) := by decide +kernel
theorem dX4_needPlace_22 : decode cX4_needPlace 22 = .ok (.return_, 1) := by decide +kernel
set_option maxRecDepth 20000 in
theorem ggX4_cellOf_X4_needPlace : GoodIn wsX4_cellOf wsX4_needPlace := goodIn_ca (goodIn_r _ [7, 1, 2, 8, 9, 10, 11, 12, 13, 14, 15] (by decide +kernel) (by decide +kernel)) (goodIn_sub (fun _ h => List.mem_cons_of_mem _ (List.mem_append_right _ h)) (by decide +kernel))
set_option maxRecDepth 20000 in
theorem gX4_cellOf_X4_needPlace : GoodIn wsX4_cellOf (va_wsS RX4 64 yX4_needPlace wsX4_needPlace) := goodIn_app (goodIn_of _ (by decide +kernel)) ggX4_cellOf_X4_needPlace
theorem dX4_cellOf_0 : decode cX4_cellOf 0 = .ok (.aload_n 0, 1) := by decide +kernel
theorem dX4_cellOf_1 : decode cX4_cellOf 1 = .ok (.iload_n 1, 1) := by decide +kernel
theorem dX4_cellOf_2 : decode cX4_cellOf 2 = .ok (.invokestatic 64, 3) := by decide +kernel
theorem dX4_cellOf_5 : decode cX4_cellOf 5 = .ok (.iload_n 2, 1) := by decide +kernel
theorem dX4_cellOf_6 : decode cX4_cellOf 6 = .ok (.ifCond .lt 11, 3) := by decide +kernel
theorem dX4_cellOf_9 : decode cX4_cellOf 9 = .ok (.iload_n 2, 1) := by decide +kernel
theorem dX4_cellOf_10 : decode cX4_cellOf 10 = .ok (.aload_n 0, 1) := by decide +kernel
theorem dX4_cellOf_11 : decode cX4_cellOf 11 = .ok (.getfield 193, 3) := by decide +kernel
theorem dX4_cellOf_14 : decode cX4_cellOf 14 = .ok (.if_icmp .lt 13, 3) := by decide +kernel
theorem dX4_cellOf_17 : decode cX4_cellOf 17 = .ok (.new 141, 3) := by decide +kernel
theorem dX4_cellOf_20 : decode cX4_cellOf 20 = .ok (.dup, 1) := by decide +kernel
theorem dX4_cellOf_21 : decode cX4_cellOf 21 = .ok (.ldc 196, 2) := by decide +kernel
theorem dX4_cellOf_23 : decode cX4_cellOf 23 = .ok (.invokespecial 145, 3) := by decide +kernel
theorem dX4_cellOf_26 : decode cX4_cellOf 26 = .ok (.athrow, 1) := by decide +kernel
theorem dX4_cellOf_27 : decode cX4_cellOf 27 = .ok (.iload_n 1, 1) := by decide +kernel
theorem dX4_cellOf_28 : decode cX4_cellOf 28 = .ok (.iconst 4, 1) := by decide +kernel
theorem dX4_cellOf_29 : decode cX4_cellOf 29 = .ok (.imul, 1) := by decide +kernel
theorem dX4_cellOf_30 : decode cX4_cellOf 30 = .ok (.iload_n 2, 1) := by decide +kernel
theorem dX4_cellOf_31 : decode cX4_cellOf 31 = .ok (.iadd, 1) := by decide +kernel
theorem dX4_cellOf_32 : decode cX4_cellOf 32 = .ok (.ireturn, 1) := by decide +kernel
set_option maxRecDepth 20000 in
theorem ggX4_needTold_X4_isTold : GoodIn wsX4_needTold wsX4_isTold := goodIn_r _ [6, 7, 8] (by decide +kernel) (by decide +kernel)
set_option maxRecDepth 20000 in
theorem gX4_needTold_X4_isTold : GoodIn wsX4_needTold (va_wsS RX4 198 yX4_isTold wsX4_isTold) := goodIn_app (goodIn_of _ (by decide +kernel)) ggX4_needTold_X4_isTold
theorem dX4_needTold_0 : decode cX4_needTold 0 = .ok (.iload_n 0, 1) := by decide +kernel
theorem dX4_needTold_1 : decode cX4_needTold 1 = .ok (.i2l, 1) := by decide +kernel
theorem dX4_needTold_2 : decode cX4_needTold 2 = .ok (.invokestatic 198, 3) := by decide +kernel
theorem dX4_needTold_5 : decode cX4_needTold 5 = .ok (.ifCond .ne 13, 3) := by decide +kernel
theorem dX4_needTold_8 : decode cX4_needTold 8 = .ok (.new 177, 3) := by decide +kernel
theorem dX4_needTold_11 : decode cX4_needTold 11 = .ok (.dup, 1) := by decide +kernel
theorem dX4_needTold_12 : decode cX4_needTold 12 = .ok (.ldc 202, 2) := by decide +kernel
theorem dX4_needTold_14 : decode cX4_needTold 14 = .ok (.invokespecial 181, 3) := by decide +kernel
theorem dX4_needTold_17 : decode cX4_needTold 17 = .ok (.athrow, 1) := by decide +kernel
theorem dX4_needTold_18 : decode cX4_needTold 18 = .ok (.return_, 1) := by decide +kernel
theorem dX4_needSteps_0 : decode cX4_needSteps 0 = .ok (.iload_n 0, 1) := by decide +kernel
theorem dX4_needSteps_1 : decode cX4_needSteps 1 = .ok (.ifCond .lt 9, 3) := by decide +kernel
theorem dX4_needSteps_4 : decode cX4_needSteps 4 = .ok (.iload_n 0, 1) := by decide +kernel
theorem dX4_needSteps_5 : decode cX4_needSteps 5 = .ok (.bipush 60, 2) := by decide +kernel
theorem dX4_needSteps_7 : decode cX4_needSteps 7 = .ok (.if_icmp .le 13, 3) := by decide +kernel
theorem dX4_needSteps_10 : decode cX4_needSteps 10 = .ok (.new 177, 3) := by decide +kernel
theorem dX4_needSteps_13 : decode cX4_needSteps 13 = .ok (.dup, 1) := by decide +kernel
theorem dX4_needSteps_14 : decode cX4_needSteps 14 = .ok (.ldc 204, 2) := by decide +kernel
theorem dX4_needSteps_16 : decode cX4_needSteps 16 = .ok (.invokespecial 181, 3) := by decide +kernel
theorem dX4_needSteps_19 : decode cX4_needSteps 19 = .ok (.athrow, 1) := by decide +kernel
theorem dX4_needSteps_20 : decode cX4_needSteps 20 = .ok (.return_, 1) := by decide +kernel
theorem dX4_isTold_0 : decode cX4_isTold 0 = .ok (.lload_n 0, 1) := by decide +kernel
theorem dX4_isTold_1 : decode cX4_isTold 1 = .ok (.ldc2_w 206, 3) := by decide +kernel
theorem dX4_isTold_4 : decode cX4_isTold 4 = .ok (.lcmp, 1) := by decide +kernel
theorem dX4_isTold_5 : decode cX4_isTold 5 = .ok (.ifCond .lt 15, 3) := by decide +kernel
theorem dX4_isTold_8 : decode cX4_isTold 8 = .ok (.lload_n 0, 1) := by decide +kernel
theorem dX4_isTold_9 : decode cX4_isTold 9 = .ok (.ldc2_w 208, 3) := by decide +kernel
theorem dX4_isTold_12 : decode cX4_isTold 12 = .ok (.lcmp, 1) := by decide +kernel
theorem dX4_isTold_13 : decode cX4_isTold 13 = .ok (.ifCond .gt 7, 3) := by decide +kernel
theorem dX4_isTold_16 : decode cX4_isTold 16 = .ok (.iconst 1, 1) := by decide +kernel
theorem dX4_isTold_17 : decode cX4_isTold 17 = .ok (.goto 4, 3) := by decide +kernel
theorem dX4_isTold_20 : decode cX4_isTold 20 = .ok (.iconst 0, 1) := by decide +kernel
theorem dX4_isTold_21 : decode cX4_isTold 21 = .ok (.ireturn, 1) := by decide +kernel
