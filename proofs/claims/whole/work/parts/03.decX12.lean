theorem dX1_init_0 : decode cX1_init 0 = .ok (.aload_n 0, 1) := by decide +kernel
theorem dX1_init_1 : decode cX1_init 1 = .ok (.invokespecial 3, 3) := by decide +kernel
theorem dX1_init_4 : decode cX1_init 4 = .ok (.aload_n 0, 1) := by decide +kernel
theorem dX1_init_5 : decode cX1_init 5 = .ok (.bipush 40, 2) := by decide +kernel
theorem dX1_init_7 : decode cX1_init 7 = .ok (.newarray .int, 2) := by decide +kernel
theorem dX1_init_9 : decode cX1_init 9 = .ok (.putfield 9, 3) := by decide +kernel
theorem dX1_init_12 : decode cX1_init 12 = .ok (.aload_n 0, 1) := by decide +kernel
theorem dX1_init_13 : decode cX1_init 13 = .ok (.iconst 0, 1) := by decide +kernel
theorem dX1_init_14 : decode cX1_init 14 = .ok (.putfield 15, 3) := by decide +kernel
theorem dX1_init_17 : decode cX1_init 17 = .ok (.return_, 1) := by decide +kernel
theorem dX1_add_0 : decode cX1_add 0 = .ok (.aload_n 0, 1) := by decide +kernel
theorem dX1_add_1 : decode cX1_add 1 = .ok (.getfield 15, 3) := by decide +kernel
theorem dX1_add_4 : decode cX1_add 4 = .ok (.bipush 40, 2) := by decide +kernel
theorem dX1_add_6 : decode cX1_add 6 = .ok (.if_icmp .ge 23, 3) := by decide +kernel
theorem dX1_add_9 : decode cX1_add 9 = .ok (.aload_n 0, 1) := by decide +kernel
theorem dX1_add_10 : decode cX1_add 10 = .ok (.getfield 9, 3) := by decide +kernel
theorem dX1_add_13 : decode cX1_add 13 = .ok (.aload_n 0, 1) := by decide +kernel
theorem dX1_add_14 : decode cX1_add 14 = .ok (.getfield 15, 3) := by decide +kernel
theorem dX1_add_17 : decode cX1_add 17 = .ok (.iload_n 1, 1) := by decide +kernel
theorem dX1_add_18 : decode cX1_add 18 = .ok (.iastore, 1) := by decide +kernel
theorem dX1_add_19 : decode cX1_add 19 = .ok (.aload_n 0, 1) := by decide +kernel
theorem dX1_add_20 : decode cX1_add 20 = .ok (.dup, 1) := by decide +kernel
theorem dX1_add_21 : decode cX1_add 21 = .ok (.getfield 15, 3) := by decide +kernel
theorem dX1_add_24 : decode cX1_add 24 = .ok (.iconst 1, 1) := by decide +kernel
theorem dX1_add_25 : decode cX1_add 25 = .ok (.iadd, 1) := by decide +kernel
theorem dX1_add_26 : decode cX1_add 26 = .ok (.putfield 15, 3) := by decide +kernel
theorem dX1_add_29 : decode cX1_add 29 = .ok (.return_, 1) := by decide +kernel
theorem dX1_nodeAt_0 : decode cX1_nodeAt 0 = .ok (.aload_n 0, 1) := by decide +kernel
theorem dX1_nodeAt_1 : decode cX1_nodeAt 1 = .ok (.getfield 9, 3) := by decide +kernel
theorem dX1_nodeAt_4 : decode cX1_nodeAt 4 = .ok (.iload_n 1, 1) := by decide +kernel
theorem dX1_nodeAt_5 : decode cX1_nodeAt 5 = .ok (.iaload, 1) := by decide +kernel
theorem dX1_nodeAt_6 : decode cX1_nodeAt 6 = .ok (.bipush 97, 2) := by decide +kernel
theorem dX1_nodeAt_8 : decode cX1_nodeAt 8 = .ok (.isub, 1) := by decide +kernel
theorem dX1_nodeAt_9 : decode cX1_nodeAt 9 = .ok (.ireturn, 1) := by decide +kernel
theorem dX1_colourAt_0 : decode cX1_colourAt 0 = .ok (.aload_n 0, 1) := by decide +kernel
theorem dX1_colourAt_1 : decode cX1_colourAt 1 = .ok (.getfield 9, 3) := by decide +kernel
theorem dX1_colourAt_4 : decode cX1_colourAt 4 = .ok (.iload_n 1, 1) := by decide +kernel
theorem dX1_colourAt_5 : decode cX1_colourAt 5 = .ok (.iaload, 1) := by decide +kernel
theorem dX1_colourAt_6 : decode cX1_colourAt 6 = .ok (.bipush 48, 2) := by decide +kernel
theorem dX1_colourAt_8 : decode cX1_colourAt 8 = .ok (.isub, 1) := by decide +kernel
theorem dX1_colourAt_9 : decode cX1_colourAt 9 = .ok (.ireturn, 1) := by decide +kernel
set_option maxRecDepth 20000 in
theorem ggX1_firstFault_X1_canStand : GoodIn wsX1_firstFault wsX1_canStand := goodIn_r _ [6, 7, 8, 9, 10, 5, 11, 12, 13, 14, 15, 16, 17, 18, 19, 20, 21, 22, 23, 24, 25, 26, 27, 28, 29] (by decide +kernel) (by decide +kernel)
set_option maxRecDepth 20000 in
theorem gX1_firstFault_X1_canStand : GoodIn wsX1_firstFault (wsV RX1 19 RX1 yX1_canStand wsX1_canStand) := goodIn_app (goodIn_of _ (by decide +kernel)) ggX1_firstFault_X1_canStand
theorem dX1_firstFault_0 : decode cX1_firstFault 0 = .ok (.iconst 0, 1) := by decide +kernel
theorem dX1_firstFault_1 : decode cX1_firstFault 1 = .ok (.istore_n 1, 1) := by decide +kernel
theorem dX1_firstFault_2 : decode cX1_firstFault 2 = .ok (.iload_n 1, 1) := by decide +kernel
theorem dX1_firstFault_3 : decode cX1_firstFault 3 = .ok (.aload_n 0, 1) := by decide +kernel
theorem dX1_firstFault_4 : decode cX1_firstFault 4 = .ok (.getfield 15, 3) := by decide +kernel
theorem dX1_firstFault_7 : decode cX1_firstFault 7 = .ok (.if_icmp .ge 19, 3) := by decide +kernel
theorem dX1_firstFault_10 : decode cX1_firstFault 10 = .ok (.aload_n 0, 1) := by decide +kernel
theorem dX1_firstFault_11 : decode cX1_firstFault 11 = .ok (.iload_n 1, 1) := by decide +kernel
theorem dX1_firstFault_12 : decode cX1_firstFault 12 = .ok (.invokevirtual 19, 3) := by decide +kernel
theorem dX1_firstFault_15 : decode cX1_firstFault 15 = .ok (.ifCond .ne 5, 3) := by decide +kernel
theorem dX1_firstFault_18 : decode cX1_firstFault 18 = .ok (.iload_n 1, 1) := by decide +kernel
theorem dX1_firstFault_19 : decode cX1_firstFault 19 = .ok (.ireturn, 1) := by decide +kernel
theorem dX1_firstFault_20 : decode cX1_firstFault 20 = .ok (.iinc 1 1, 3) := by decide +kernel
theorem dX1_firstFault_23 : decode cX1_firstFault 23 = .ok (.goto (-21), 3) := by decide +kernel
theorem dX1_firstFault_26 : decode cX1_firstFault 26 = .ok (.aload_n 0, 1) := by decide +kernel
theorem dX1_firstFault_27 : decode cX1_firstFault 27 = .ok (.getfield 15, 3) := by decide +kernel
theorem dX1_firstFault_30 : decode cX1_firstFault 30 = .ok (.iconst 3, 1) := by decide +kernel
theorem dX1_firstFault_31 : decode cX1_firstFault 31 = .ok (.irem, 1) := by decide +kernel
theorem dX1_firstFault_32 : decode cX1_firstFault 32 = .ok (.ifCond .ne 8, 3) := by decide +kernel
theorem dX1_firstFault_35 : decode cX1_firstFault 35 = .ok (.bipush (-6), 2) := by decide +kernel
theorem dX1_firstFault_37 : decode cX1_firstFault 37 = .ok (.goto 7, 3) := by decide +kernel
theorem dX1_firstFault_40 : decode cX1_firstFault 40 = .ok (.aload_n 0, 1) := by decide +kernel
theorem dX1_firstFault_41 : decode cX1_firstFault 41 = .ok (.getfield 15, 3) := by decide +kernel
theorem dX1_firstFault_44 : decode cX1_firstFault 44 = .ok (.ireturn, 1) := by decide +kernel
set_option maxRecDepth 20000 in
theorem ggX1_canStand_X1_nodeAt : GoodIn wsX1_canStand wsX1_nodeAt := goodIn_r _ [6, 1, 23, 24] (by decide +kernel) (by decide +kernel)
set_option maxRecDepth 20000 in
theorem gX1_canStand_X1_nodeAt : GoodIn wsX1_canStand (wsV RX1 23 RX1 yX1_nodeAt wsX1_nodeAt) := goodIn_app (goodIn_of _ (by decide +kernel)) ggX1_canStand_X1_nodeAt
set_option maxRecDepth 20000 in
theorem ggX1_canStand_X2_isNode : GoodIn wsX1_canStand wsX2_isNode := goodIn_r _ [9, 10, 11, 8, 12] (by decide +kernel) (by decide +kernel)
set_option maxRecDepth 20000 in
theorem gX1_canStand_X2_isNode_n27 : GoodIn wsX1_canStand (wsX2_isNode) := ggX1_canStand_X2_isNode
set_option maxRecDepth 20000 in
theorem ggX1_canStand_X1_isToldBefore : GoodIn wsX1_canStand wsX1_isToldBefore := goodIn_r _ [16, 2, 3, 4, 5, 6, 1, 17, 8, 18, 23, 24] (by decide +kernel) (by decide +kernel)
set_option maxRecDepth 20000 in
theorem gX1_canStand_X1_isToldBefore : GoodIn wsX1_canStand (wsV RX1 30 RX1 yX1_isToldBefore wsX1_isToldBefore) := goodIn_app (goodIn_of _ (by decide +kernel)) ggX1_canStand_X1_isToldBefore
set_option maxRecDepth 20000 in
theorem ggX1_canStand_X1_colourAt : GoodIn wsX1_canStand wsX1_colourAt := goodIn_r _ [22, 1, 23, 24] (by decide +kernel) (by decide +kernel)
set_option maxRecDepth 20000 in
theorem gX1_canStand_X1_colourAt : GoodIn wsX1_canStand (wsV RX1 33 RX1 yX1_colourAt wsX1_colourAt) := goodIn_app (goodIn_of _ (by decide +kernel)) ggX1_canStand_X1_colourAt
set_option maxRecDepth 20000 in
theorem ggX1_canStand_X2_isWithin : GoodIn wsX1_canStand wsX2_isWithin := goodIn_r _ [12] (by decide +kernel) (by decide +kernel)
set_option maxRecDepth 20000 in
theorem gX1_canStand_X2_isWithin_n36 : GoodIn wsX1_canStand (wsX2_isWithin) := ggX1_canStand_X2_isWithin
theorem dX1_canStand_0 : decode cX1_canStand 0 = .ok (.iload_n 1, 1) := by decide +kernel
theorem dX1_canStand_1 : decode cX1_canStand 1 = .ok (.bipush 36, 2) := by decide +kernel
theorem dX1_canStand_3 : decode cX1_canStand 3 = .ok (.if_icmp .lt 5, 3) := by decide +kernel
theorem dX1_canStand_6 : decode cX1_canStand 6 = .ok (.iconst 0, 1) := by decide +kernel
theorem dX1_canStand_7 : decode cX1_canStand 7 = .ok (.ireturn, 1) := by decide +kernel
theorem dX1_canStand_8 : decode cX1_canStand 8 = .ok (.iload_n 1, 1) := by decide +kernel
theorem dX1_canStand_9 : decode cX1_canStand 9 = .ok (.iconst 3, 1) := by decide +kernel
theorem dX1_canStand_10 : decode cX1_canStand 10 = .ok (.irem, 1) := by decide +kernel
theorem dX1_canStand_11 : decode cX1_canStand 11 = .ok (.lookupswitch 78 #[(0, 25), (1, 34)], 25) := by decide +kernel
theorem dX1_canStand_36 : decode cX1_canStand 36 = .ok (.aload_n 0, 1) := by decide +kernel
theorem dX1_canStand_37 : decode cX1_canStand 37 = .ok (.iload_n 1, 1) := by decide +kernel
theorem dX1_canStand_38 : decode cX1_canStand 38 = .ok (.invokevirtual 23, 3) := by decide +kernel
theorem dX1_canStand_41 : decode cX1_canStand 41 = .ok (.invokestatic 27, 3) := by decide +kernel
theorem dX1_canStand_44 : decode cX1_canStand 44 = .ok (.ireturn, 1) := by decide +kernel
theorem dX1_canStand_45 : decode cX1_canStand 45 = .ok (.aload_n 0, 1) := by decide +kernel
theorem dX1_canStand_46 : decode cX1_canStand 46 = .ok (.iload_n 1, 1) := by decide +kernel
theorem dX1_canStand_47 : decode cX1_canStand 47 = .ok (.invokevirtual 23, 3) := by decide +kernel
theorem dX1_canStand_50 : decode cX1_canStand 50 = .ok (.invokestatic 27, 3) := by decide +kernel
theorem dX1_canStand_53 : decode cX1_canStand 53 = .ok (.ifCond .eq 34, 3) := by decide +kernel
theorem dX1_canStand_56 : decode cX1_canStand 56 = .ok (.aload_n 0, 1) := by decide +kernel
theorem dX1_canStand_57 : decode cX1_canStand 57 = .ok (.getfield 9, 3) := by decide +kernel
theorem dX1_canStand_60 : decode cX1_canStand 60 = .ok (.iload_n 1, 1) := by decide +kernel
theorem dX1_canStand_61 : decode cX1_canStand 61 = .ok (.iaload, 1) := by decide +kernel
theorem dX1_canStand_62 : decode cX1_canStand 62 = .ok (.aload_n 0, 1) := by decide +kernel
theorem dX1_canStand_63 : decode cX1_canStand 63 = .ok (.getfield 9, 3) := by decide +kernel
theorem dX1_canStand_66 : decode cX1_canStand 66 = .ok (.iload_n 1, 1) := by decide +kernel
theorem dX1_canStand_67 : decode cX1_canStand 67 = .ok (.iconst 1, 1) := by decide +kernel
theorem dX1_canStand_68 : decode cX1_canStand 68 = .ok (.isub, 1) := by decide +kernel
theorem dX1_canStand_69 : decode cX1_canStand 69 = .ok (.iaload, 1) := by decide +kernel
theorem dX1_canStand_70 : decode cX1_canStand 70 = .ok (.if_icmp .eq 17, 3) := by decide +kernel
theorem dX1_canStand_73 : decode cX1_canStand 73 = .ok (.aload_n 0, 1) := by decide +kernel
theorem dX1_canStand_74 : decode cX1_canStand 74 = .ok (.iload_n 1, 1) := by decide +kernel
theorem dX1_canStand_75 : decode cX1_canStand 75 = .ok (.iconst 1, 1) := by decide +kernel
theorem dX1_canStand_76 : decode cX1_canStand 76 = .ok (.isub, 1) := by decide +kernel
theorem dX1_canStand_77 : decode cX1_canStand 77 = .ok (.invokevirtual 30, 3) := by decide +kernel
theorem dX1_canStand_80 : decode cX1_canStand 80 = .ok (.ifCond .ne 7, 3) := by decide +kernel
theorem dX1_canStand_83 : decode cX1_canStand 83 = .ok (.iconst 1, 1) := by decide +kernel
theorem dX1_canStand_84 : decode cX1_canStand 84 = .ok (.goto 4, 3) := by decide +kernel
theorem dX1_canStand_87 : decode cX1_canStand 87 = .ok (.iconst 0, 1) := by decide +kernel
theorem dX1_canStand_88 : decode cX1_canStand 88 = .ok (.ireturn, 1) := by decide +kernel
theorem dX1_canStand_89 : decode cX1_canStand 89 = .ok (.aload_n 0, 1) := by decide +kernel
theorem dX1_canStand_90 : decode cX1_canStand 90 = .ok (.iload_n 1, 1) := by decide +kernel
theorem dX1_canStand_91 : decode cX1_canStand 91 = .ok (.invokevirtual 33, 3) := by decide +kernel
theorem dX1_canStand_94 : decode cX1_canStand 94 = .ok (.iconst 0, 1) := by decide +kernel
theorem dX1_canStand_95 : decode cX1_canStand 95 = .ok (.iconst 3, 1) := by decide +kernel
theorem dX1_canStand_96 : decode cX1_canStand 96 = .ok (.invokestatic 36, 3) := by decide +kernel
theorem dX1_canStand_99 : decode cX1_canStand 99 = .ok (.ireturn, 1) := by decide +kernel
set_option maxRecDepth 20000 in
theorem ggX1_isToldBefore_X1_nodeAt : GoodIn wsX1_isToldBefore wsX1_nodeAt := goodIn_r _ [5, 6, 10, 11] (by decide +kernel) (by decide +kernel)
set_option maxRecDepth 20000 in
theorem gX1_isToldBefore_X1_nodeAt : GoodIn wsX1_isToldBefore (wsV RX1 23 RX1 yX1_nodeAt wsX1_nodeAt) := goodIn_app (goodIn_of _ (by decide +kernel)) ggX1_isToldBefore_X1_nodeAt
set_option maxRecDepth 20000 in
theorem ggX1_isToldBefore_X2_spot : GoodIn wsX1_isToldBefore wsX2_spot := goodIn_r _ [9] (by decide +kernel) (by decide +kernel)
set_option maxRecDepth 20000 in
theorem gX1_isToldBefore_X2_spot_n40 : GoodIn wsX1_isToldBefore (wsX2_spot) := ggX1_isToldBefore_X2_spot
theorem dX1_isToldBefore_0 : decode cX1_isToldBefore 0 = .ok (.aload_n 0, 1) := by decide +kernel
theorem dX1_isToldBefore_1 : decode cX1_isToldBefore 1 = .ok (.iload_n 1, 1) := by decide +kernel
theorem dX1_isToldBefore_2 : decode cX1_isToldBefore 2 = .ok (.invokevirtual 23, 3) := by decide +kernel
theorem dX1_isToldBefore_5 : decode cX1_isToldBefore 5 = .ok (.aload_n 0, 1) := by decide +kernel
theorem dX1_isToldBefore_6 : decode cX1_isToldBefore 6 = .ok (.iload_n 1, 1) := by decide +kernel
theorem dX1_isToldBefore_7 : decode cX1_isToldBefore 7 = .ok (.iconst 1, 1) := by decide +kernel
theorem dX1_isToldBefore_8 : decode cX1_isToldBefore 8 = .ok (.iadd, 1) := by decide +kernel
theorem dX1_isToldBefore_9 : decode cX1_isToldBefore 9 = .ok (.invokevirtual 23, 3) := by decide +kernel
theorem dX1_isToldBefore_12 : decode cX1_isToldBefore 12 = .ok (.invokestatic 40, 3) := by decide +kernel
theorem dX1_isToldBefore_15 : decode cX1_isToldBefore 15 = .ok (.istore_n 2, 1) := by decide +kernel
theorem dX1_isToldBefore_16 : decode cX1_isToldBefore 16 = .ok (.iconst 0, 1) := by decide +kernel
theorem dX1_isToldBefore_17 : decode cX1_isToldBefore 17 = .ok (.istore_n 3, 1) := by decide +kernel
theorem dX1_isToldBefore_18 : decode cX1_isToldBefore 18 = .ok (.iload_n 3, 1) := by decide +kernel
theorem dX1_isToldBefore_19 : decode cX1_isToldBefore 19 = .ok (.iload_n 1, 1) := by decide +kernel
theorem dX1_isToldBefore_20 : decode cX1_isToldBefore 20 = .ok (.if_icmp .ge 30, 3) := by decide +kernel
theorem dX1_isToldBefore_23 : decode cX1_isToldBefore 23 = .ok (.aload_n 0, 1) := by decide +kernel
theorem dX1_isToldBefore_24 : decode cX1_isToldBefore 24 = .ok (.iload_n 3, 1) := by decide +kernel
theorem dX1_isToldBefore_25 : decode cX1_isToldBefore 25 = .ok (.invokevirtual 23, 3) := by decide +kernel
theorem dX1_isToldBefore_28 : decode cX1_isToldBefore 28 = .ok (.aload_n 0, 1) := by decide +kernel
theorem dX1_isToldBefore_29 : decode cX1_isToldBefore 29 = .ok (.iload_n 3, 1) := by decide +kernel
theorem dX1_isToldBefore_30 : decode cX1_isToldBefore 30 = .ok (.iconst 1, 1) := by decide +kernel
theorem dX1_isToldBefore_31 : decode cX1_isToldBefore 31 = .ok (.iadd, 1) := by decide +kernel
theorem dX1_isToldBefore_32 : decode cX1_isToldBefore 32 = .ok (.invokevirtual 23, 3) := by decide +kernel
theorem dX1_isToldBefore_35 : decode cX1_isToldBefore 35 = .ok (.invokestatic 40, 3) := by decide +kernel
theorem dX1_isToldBefore_38 : decode cX1_isToldBefore 38 = .ok (.iload_n 2, 1) := by decide +kernel
theorem dX1_isToldBefore_39 : decode cX1_isToldBefore 39 = .ok (.if_icmp .ne 5, 3) := by decide +kernel
theorem dX1_isToldBefore_42 : decode cX1_isToldBefore 42 = .ok (.iconst 1, 1) := by decide +kernel
theorem dX1_isToldBefore_43 : decode cX1_isToldBefore 43 = .ok (.ireturn, 1) := by decide +kernel
theorem dX1_isToldBefore_44 : decode cX1_isToldBefore 44 = .ok (.iinc 3 3, 3) := by decide +kernel
theorem dX1_isToldBefore_47 : decode cX1_isToldBefore 47 = .ok (.goto (-29), 3) := by decide +kernel
theorem dX1_isToldBefore_50 : decode cX1_isToldBefore 50 = .ok (.iconst 0, 1) := by decide +kernel
theorem dX1_isToldBefore_51 : decode cX1_isToldBefore 51 = .ok (.ireturn, 1) := by decide +kernel
set_option maxRecDepth 20000 in
theorem ggX2_init_X1_init : GoodIn wsX2_init wsX1_init := goodIn_r _ [21, 22, 2, 3, 23, 24, 25, 38, 39] (by decide +kernel) (by decide +kernel)
set_option maxRecDepth 20000 in
theorem gX2_init_X1_init_n9 : GoodIn wsX2_init (wsX1_init) := ggX2_init_X1_init
set_option maxRecDepth 20000 in
theorem ggX2_init_X0_init : GoodIn wsX2_init wsX0_init := goodIn_r _ [27, 28, 2, 3, 23, 29, 30, 31, 32, 33, 34, 35, 36, 37, 49, 50, 51, 52, 53, 54, 55, 56, 57] (by decide +kernel) (by decide +kernel)
set_option maxRecDepth 20000 in
theorem gX2_init_X0_init_n18 : GoodIn wsX2_init (wsX0_init) := ggX2_init_X0_init
theorem dX2_init_0 : decode cX2_init 0 = .ok (.aload_n 0, 1) := by decide +kernel
theorem dX2_init_1 : decode cX2_init 1 = .ok (.invokespecial 1, 3) := by decide +kernel
theorem dX2_init_4 : decode cX2_init 4 = .ok (.aload_n 0, 1) := by decide +kernel
theorem dX2_init_5 : decode cX2_init 5 = .ok (.new 7, 3) := by decide +kernel
theorem dX2_init_8 : decode cX2_init 8 = .ok (.dup, 1) := by decide +kernel
theorem dX2_init_9 : decode cX2_init 9 = .ok (.invokespecial 9, 3) := by decide +kernel
theorem dX2_init_12 : decode cX2_init 12 = .ok (.putfield 10, 3) := by decide +kernel
theorem dX2_init_15 : decode cX2_init 15 = .ok (.aload_n 0, 1) := by decide +kernel
theorem dX2_init_16 : decode cX2_init 16 = .ok (.new 16, 3) := by decide +kernel
theorem dX2_init_19 : decode cX2_init 19 = .ok (.dup, 1) := by decide +kernel
theorem dX2_init_20 : decode cX2_init 20 = .ok (.invokespecial 18, 3) := by decide +kernel
theorem dX2_init_23 : decode cX2_init 23 = .ok (.putfield 19, 3) := by decide +kernel
theorem dX2_init_26 : decode cX2_init 26 = .ok (.aload_n 0, 1) := by decide +kernel
theorem dX2_init_27 : decode cX2_init 27 = .ok (.new 16, 3) := by decide +kernel
theorem dX2_init_30 : decode cX2_init 30 = .ok (.dup, 1) := by decide +kernel
theorem dX2_init_31 : decode cX2_init 31 = .ok (.invokespecial 18, 3) := by decide +kernel
theorem dX2_init_34 : decode cX2_init 34 = .ok (.putfield 23, 3) := by decide +kernel
theorem dX2_init_37 : decode cX2_init 37 = .ok (.aload_n 0, 1) := by decide +kernel
theorem dX2_init_38 : decode cX2_init 38 = .ok (.new 16, 3) := by decide +kernel
theorem dX2_init_41 : decode cX2_init 41 = .ok (.dup, 1) := by decide +kernel
theorem dX2_init_42 : decode cX2_init 42 = .ok (.invokespecial 18, 3) := by decide +kernel
theorem dX2_init_45 : decode cX2_init 45 = .ok (.putfield 26, 3) := by decide +kernel
theorem dX2_init_48 : decode cX2_init 48 = .ok (.aload_n 0, 1) := by decide +kernel
theorem dX2_init_49 : decode cX2_init 49 = .ok (.iconst 0, 1) := by decide +kernel
theorem dX2_init_50 : decode cX2_init 50 = .ok (.putfield 29, 3) := by decide +kernel
theorem dX2_init_53 : decode cX2_init 53 = .ok (.aload_n 0, 1) := by decide +kernel
theorem dX2_init_54 : decode cX2_init 54 = .ok (.new 16, 3) := by decide +kernel
theorem dX2_init_57 : decode cX2_init 57 = .ok (.dup, 1) := by decide +kernel
theorem dX2_init_58 : decode cX2_init 58 = .ok (.invokespecial 18, 3) := by decide +kernel
theorem dX2_init_61 : decode cX2_init 61 = .ok (.putfield 33, 3) := by decide +kernel
theorem dX2_init_64 : decode cX2_init 64 = .ok (.aload_n 0, 1) := by decide +kernel
theorem dX2_init_65 : decode cX2_init 65 = .ok (.new 16, 3) := by decide +kernel
theorem dX2_init_68 : decode cX2_init 68 = .ok (.dup, 1) := by decide +kernel
theorem dX2_init_69 : decode cX2_init 69 = .ok (.invokespecial 18, 3) := by decide +kernel
theorem dX2_init_72 : decode cX2_init 72 = .ok (.putfield 36, 3) := by decide +kernel
theorem dX2_init_75 : decode cX2_init 75 = .ok (.aload_n 0, 1) := by decide +kernel
theorem dX2_init_76 : decode cX2_init 76 = .ok (.bipush 8, 2) := by decide +kernel
theorem dX2_init_78 : decode cX2_init 78 = .ok (.newarray .long, 2) := by decide +kernel
theorem dX2_init_80 : decode cX2_init 80 = .ok (.putfield 39, 3) := by decide +kernel
theorem dX2_init_83 : decode cX2_init 83 = .ok (.aload_n 0, 1) := by decide +kernel
theorem dX2_init_84 : decode cX2_init 84 = .ok (.bipush 8, 2) := by decide +kernel
theorem dX2_init_86 : decode cX2_init 86 = .ok (.newarray .long, 2) := by decide +kernel
theorem dX2_init_88 : decode cX2_init 88 = .ok (.putfield 43, 3) := by decide +kernel
theorem dX2_init_91 : decode cX2_init 91 = .ok (.return_, 1) := by decide +kernel
set_option maxRecDepth 20000 in
theorem ggX2_node_X2_isNode : GoodIn wsX2_node wsX2_isNode := goodIn_r _ [5, 6, 7, 4, 8] (by decide +kernel) (by decide +kernel)
set_option maxRecDepth 20000 in
theorem gX2_node_X2_isNode : GoodIn wsX2_node (va_wsS RX2 46 yX2_isNode wsX2_isNode) := goodIn_app (goodIn_of _ (by decide +kernel)) ggX2_node_X2_isNode
set_option maxRecDepth 20000 in
theorem ggX2_node_X2_isWithin : GoodIn wsX2_node wsX2_isWithin := goodIn_r _ [8] (by decide +kernel) (by decide +kernel)
set_option maxRecDepth 20000 in
theorem gX2_node_X2_isWithin : GoodIn wsX2_node (va_wsS RX2 50 yX2_isWithin wsX2_isWithin) := goodIn_app (goodIn_of _ (by decide +kernel)) ggX2_node_X2_isWithin
theorem dX2_node_0 : decode cX2_node 0 = .ok (.iload_n 1, 1) := by decide +kernel
theorem dX2_node_1 : decode cX2_node 1 = .ok (.invokestatic 46, 3) := by decide +kernel
theorem dX2_node_4 : decode cX2_node 4 = .ok (.ifCond .ne 5, 3) := by decide +kernel
theorem dX2_node_7 : decode cX2_node 7 = .ok (.iconst (-1), 1) := by decide +kernel
theorem dX2_node_8 : decode cX2_node 8 = .ok (.ireturn, 1) := by decide +kernel
theorem dX2_node_9 : decode cX2_node 9 = .ok (.iload_n 2, 1) := by decide +kernel
theorem dX2_node_10 : decode cX2_node 10 = .ok (.iconst 1, 1) := by decide +kernel
theorem dX2_node_11 : decode cX2_node 11 = .ok (.iconst 4, 1) := by decide +kernel
theorem dX2_node_12 : decode cX2_node 12 = .ok (.invokestatic 50, 3) := by decide +kernel
theorem dX2_node_15 : decode cX2_node 15 = .ok (.ifCond .eq 14, 3) := by decide +kernel
theorem dX2_node_18 : decode cX2_node 18 = .ok (.iload_n 3, 1) := by decide +kernel
theorem dX2_node_19 : decode cX2_node 19 = .ok (.iconst 0, 1) := by decide +kernel
theorem dX2_node_20 : decode cX2_node 20 = .ok (.sipush 999, 3) := by decide +kernel
theorem dX2_node_23 : decode cX2_node 23 = .ok (.invokestatic 50, 3) := by decide +kernel
theorem dX2_node_26 : decode cX2_node 26 = .ok (.ifCond .ne 6, 3) := by decide +kernel
theorem dX2_node_29 : decode cX2_node 29 = .ok (.bipush (-2), 2) := by decide +kernel
theorem dX2_node_31 : decode cX2_node 31 = .ok (.ireturn, 1) := by decide +kernel
theorem dX2_node_32 : decode cX2_node 32 = .ok (.aload_n 0, 1) := by decide +kernel
theorem dX2_node_33 : decode cX2_node 33 = .ok (.getfield 19, 3) := by decide +kernel
theorem dX2_node_36 : decode cX2_node 36 = .ok (.getfield 54, 3) := by decide +kernel
theorem dX2_node_39 : decode cX2_node 39 = .ok (.iload_n 1, 1) := by decide +kernel
theorem dX2_node_40 : decode cX2_node 40 = .ok (.iaload, 1) := by decide +kernel
theorem dX2_node_41 : decode cX2_node 41 = .ok (.istore 4, 2) := by decide +kernel
theorem dX2_node_43 : decode cX2_node 43 = .ok (.aload_n 0, 1) := by decide +kernel
theorem dX2_node_44 : decode cX2_node 44 = .ok (.getfield 19, 3) := by decide +kernel
theorem dX2_node_47 : decode cX2_node 47 = .ok (.getfield 58, 3) := by decide +kernel
theorem dX2_node_50 : decode cX2_node 50 = .ok (.iload_n 1, 1) := by decide +kernel
theorem dX2_node_51 : decode cX2_node 51 = .ok (.iload_n 2, 1) := by decide +kernel
theorem dX2_node_52 : decode cX2_node 52 = .ok (.iastore, 1) := by decide +kernel
theorem dX2_node_53 : decode cX2_node 53 = .ok (.aload_n 0, 1) := by decide +kernel
theorem dX2_node_54 : decode cX2_node 54 = .ok (.getfield 19, 3) := by decide +kernel
theorem dX2_node_57 : decode cX2_node 57 = .ok (.getfield 54, 3) := by decide +kernel
theorem dX2_node_60 : decode cX2_node 60 = .ok (.iload_n 1, 1) := by decide +kernel
theorem dX2_node_61 : decode cX2_node 61 = .ok (.iload_n 3, 1) := by decide +kernel
theorem dX2_node_62 : decode cX2_node 62 = .ok (.iastore, 1) := by decide +kernel
theorem dX2_node_63 : decode cX2_node 63 = .ok (.iload 4, 2) := by decide +kernel
theorem dX2_node_65 : decode cX2_node 65 = .ok (.sipush 10000, 3) := by decide +kernel
theorem dX2_node_68 : decode cX2_node 68 = .ok (.iadd, 1) := by decide +kernel
theorem dX2_node_69 : decode cX2_node 69 = .ok (.ireturn, 1) := by decide +kernel
set_option maxRecDepth 20000 in
theorem ggX2_edge_X2_isNode : GoodIn wsX2_edge wsX2_isNode := goodIn_r _ [5, 6, 7, 4, 8] (by decide +kernel) (by decide +kernel)
set_option maxRecDepth 20000 in
theorem gX2_edge_X2_isNode : GoodIn wsX2_edge (va_wsS RX2 46 yX2_isNode wsX2_isNode) := goodIn_app (goodIn_of _ (by decide +kernel)) ggX2_edge_X2_isNode
set_option maxRecDepth 20000 in
theorem ggX2_edge_X2_isWithin : GoodIn wsX2_edge wsX2_isWithin := goodIn_r _ [8] (by decide +kernel) (by decide +kernel)
set_option maxRecDepth 20000 in
theorem gX2_edge_X2_isWithin : GoodIn wsX2_edge (va_wsS RX2 50 yX2_isWithin wsX2_isWithin) := goodIn_app (goodIn_of _ (by decide +kernel)) ggX2_edge_X2_isWithin
set_option maxRecDepth 20000 in
theorem ggX2_edge_X0_lift : GoodIn wsX2_edge wsX0_lift := goodIn_r _ [12, 13, 14, 15, 16, 17, 18, 19, 10, 20, 21, 4, 22, 36, 37, 38, 39, 40, 41, 42, 43, 44] (by decide +kernel) (by decide +kernel)
set_option maxRecDepth 20000 in
theorem gX2_edge_X0_lift_n61 : GoodIn wsX2_edge (wsX0_lift) := ggX2_edge_X0_lift
set_option maxRecDepth 20000 in
theorem ggX2_edge_X0_joins : GoodIn wsX2_edge wsX0_joins := goodIn_r _ [20, 13, 21, 4, 22, 36, 37, 38, 39, 40, 41, 42, 43, 44] (by decide +kernel) (by decide +kernel)
set_option maxRecDepth 20000 in
theorem gX2_edge_X0_joins_n68 : GoodIn wsX2_edge (wsX0_joins) := ggX2_edge_X0_joins
set_option maxRecDepth 20000 in
theorem ggX2_edge_X0_lay : GoodIn wsX2_edge wsX0_lay := goodIn_r _ [25, 13, 15, 16, 26, 9, 11, 10, 12, 14, 17, 18, 19, 20, 21, 4, 22, 36, 37, 38, 39, 40, 41, 42, 43, 44] (by decide +kernel) (by decide +kernel)
set_option maxRecDepth 20000 in
theorem gX2_edge_X0_lay_n72 : GoodIn wsX2_edge (wsX0_lay) := ggX2_edge_X0_lay
theorem dX2_edge_0 : decode cX2_edge 0 = .ok (.iload_n 1, 1) := by decide +kernel
theorem dX2_edge_1 : decode cX2_edge 1 = .ok (.invokestatic 46, 3) := by decide +kernel
theorem dX2_edge_4 : decode cX2_edge 4 = .ok (.ifCond .eq 10, 3) := by decide +kernel
theorem dX2_edge_7 : decode cX2_edge 7 = .ok (.iload_n 2, 1) := by decide +kernel
theorem dX2_edge_8 : decode cX2_edge 8 = .ok (.invokestatic 46, 3) := by decide +kernel
theorem dX2_edge_11 : decode cX2_edge 11 = .ok (.ifCond .ne 5, 3) := by decide +kernel
theorem dX2_edge_14 : decode cX2_edge 14 = .ok (.iconst (-1), 1) := by decide +kernel
theorem dX2_edge_15 : decode cX2_edge 15 = .ok (.ireturn, 1) := by decide +kernel
theorem dX2_edge_16 : decode cX2_edge 16 = .ok (.iload_n 1, 1) := by decide +kernel
theorem dX2_edge_17 : decode cX2_edge 17 = .ok (.iload_n 2, 1) := by decide +kernel
theorem dX2_edge_18 : decode cX2_edge 18 = .ok (.if_icmp .eq 12, 3) := by decide +kernel
theorem dX2_edge_21 : decode cX2_edge 21 = .ok (.iload_n 3, 1) := by decide +kernel
theorem dX2_edge_22 : decode cX2_edge 22 = .ok (.iconst (-1), 1) := by decide +kernel
theorem dX2_edge_23 : decode cX2_edge 23 = .ok (.iconst 3, 1) := by decide +kernel
theorem dX2_edge_24 : decode cX2_edge 24 = .ok (.invokestatic 50, 3) := by decide +kernel
theorem dX2_edge_27 : decode cX2_edge 27 = .ok (.ifCond .ne 6, 3) := by decide +kernel
theorem dX2_edge_30 : decode cX2_edge 30 = .ok (.bipush (-2), 2) := by decide +kernel
theorem dX2_edge_32 : decode cX2_edge 32 = .ok (.ireturn, 1) := by decide +kernel
theorem dX2_edge_33 : decode cX2_edge 33 = .ok (.iload_n 3, 1) := by decide +kernel
theorem dX2_edge_34 : decode cX2_edge 34 = .ok (.iconst (-1), 1) := by decide +kernel
theorem dX2_edge_35 : decode cX2_edge 35 = .ok (.if_icmp .ne 20, 3) := by decide +kernel
theorem dX2_edge_38 : decode cX2_edge 38 = .ok (.aload_n 0, 1) := by decide +kernel
theorem dX2_edge_39 : decode cX2_edge 39 = .ok (.getfield 19, 3) := by decide +kernel
theorem dX2_edge_42 : decode cX2_edge 42 = .ok (.iload_n 1, 1) := by decide +kernel
theorem dX2_edge_43 : decode cX2_edge 43 = .ok (.iload_n 2, 1) := by decide +kernel
theorem dX2_edge_44 : decode cX2_edge 44 = .ok (.invokevirtual 61, 3) := by decide +kernel
theorem dX2_edge_47 : decode cX2_edge 47 = .ok (.aload_n 0, 1) := by decide +kernel
theorem dX2_edge_48 : decode cX2_edge 48 = .ok (.getfield 19, 3) := by decide +kernel
theorem dX2_edge_51 : decode cX2_edge 51 = .ok (.getfield 65, 3) := by decide +kernel
theorem dX2_edge_54 : decode cX2_edge 54 = .ok (.ireturn, 1) := by decide +kernel
theorem dX2_edge_55 : decode cX2_edge 55 = .ok (.aload_n 0, 1) := by decide +kernel
theorem dX2_edge_56 : decode cX2_edge 56 = .ok (.getfield 19, 3) := by decide +kernel
theorem dX2_edge_59 : decode cX2_edge 59 = .ok (.iload_n 1, 1) := by decide +kernel
theorem dX2_edge_60 : decode cX2_edge 60 = .ok (.iload_n 2, 1) := by decide +kernel
theorem dX2_edge_61 : decode cX2_edge 61 = .ok (.invokevirtual 68, 3) := by decide +kernel
theorem dX2_edge_64 : decode cX2_edge 64 = .ok (.ifCond .ne 18, 3) := by decide +kernel
theorem dX2_edge_67 : decode cX2_edge 67 = .ok (.aload_n 0, 1) := by decide +kernel
theorem dX2_edge_68 : decode cX2_edge 68 = .ok (.getfield 19, 3) := by decide +kernel
theorem dX2_edge_71 : decode cX2_edge 71 = .ok (.getfield 65, 3) := by decide +kernel
theorem dX2_edge_74 : decode cX2_edge 74 = .ok (.bipush 12, 2) := by decide +kernel
theorem dX2_edge_76 : decode cX2_edge 76 = .ok (.if_icmp .lt 6, 3) := by decide +kernel
theorem dX2_edge_79 : decode cX2_edge 79 = .ok (.bipush (-4), 2) := by decide +kernel
theorem dX2_edge_81 : decode cX2_edge 81 = .ok (.ireturn, 1) := by decide +kernel
theorem dX2_edge_82 : decode cX2_edge 82 = .ok (.aload_n 0, 1) := by decide +kernel
theorem dX2_edge_83 : decode cX2_edge 83 = .ok (.getfield 19, 3) := by decide +kernel
theorem dX2_edge_86 : decode cX2_edge 86 = .ok (.iload_n 1, 1) := by decide +kernel
theorem dX2_edge_87 : decode cX2_edge 87 = .ok (.iload_n 2, 1) := by decide +kernel
theorem dX2_edge_88 : decode cX2_edge 88 = .ok (.iload_n 3, 1) := by decide +kernel
theorem dX2_edge_89 : decode cX2_edge 89 = .ok (.invokevirtual 72, 3) := by decide +kernel
theorem dX2_edge_92 : decode cX2_edge 92 = .ok (.aload_n 0, 1) := by decide +kernel
theorem dX2_edge_93 : decode cX2_edge 93 = .ok (.getfield 19, 3) := by decide +kernel
theorem dX2_edge_96 : decode cX2_edge 96 = .ok (.getfield 65, 3) := by decide +kernel
theorem dX2_edge_99 : decode cX2_edge 99 = .ok (.ireturn, 1) := by decide +kernel
set_option maxRecDepth 20000 in
theorem ggX2_say_X2_isWithin : GoodIn wsX2_say wsX2_isWithin := goodIn_r _ [5] (by decide +kernel) (by decide +kernel)
set_option maxRecDepth 20000 in
theorem gX2_say_X2_isWithin : GoodIn wsX2_say (va_wsS RX2 50 yX2_isWithin wsX2_isWithin) := goodIn_app (goodIn_of _ (by decide +kernel)) ggX2_say_X2_isWithin
set_option maxRecDepth 20000 in
theorem ggX2_say_X1_add : GoodIn wsX2_say wsX1_add := goodIn_r _ [9, 10, 11, 21, 22] (by decide +kernel) (by decide +kernel)
set_option maxRecDepth 20000 in
theorem gX2_say_X1_add_n79 : GoodIn wsX2_say (wsX1_add) := ggX2_say_X1_add
theorem dX2_say_0 : decode cX2_say 0 = .ok (.iload_n 1, 1) := by decide +kernel
theorem dX2_say_1 : decode cX2_say 1 = .ok (.bipush 33, 2) := by decide +kernel
theorem dX2_say_3 : decode cX2_say 3 = .ok (.bipush 126, 2) := by decide +kernel
theorem dX2_say_5 : decode cX2_say 5 = .ok (.invokestatic 50, 3) := by decide +kernel
theorem dX2_say_8 : decode cX2_say 8 = .ok (.ifCond .ne 6, 3) := by decide +kernel
theorem dX2_say_11 : decode cX2_say 11 = .ok (.bipush (-2), 2) := by decide +kernel
theorem dX2_say_13 : decode cX2_say 13 = .ok (.ireturn, 1) := by decide +kernel
theorem dX2_say_14 : decode cX2_say 14 = .ok (.aload_n 0, 1) := by decide +kernel
theorem dX2_say_15 : decode cX2_say 15 = .ok (.getfield 10, 3) := by decide +kernel
theorem dX2_say_18 : decode cX2_say 18 = .ok (.getfield 76, 3) := by decide +kernel
theorem dX2_say_21 : decode cX2_say 21 = .ok (.bipush 40, 2) := by decide +kernel
theorem dX2_say_23 : decode cX2_say 23 = .ok (.if_icmp .lt 6, 3) := by decide +kernel
theorem dX2_say_26 : decode cX2_say 26 = .ok (.bipush (-4), 2) := by decide +kernel
theorem dX2_say_28 : decode cX2_say 28 = .ok (.ireturn, 1) := by decide +kernel
theorem dX2_say_29 : decode cX2_say 29 = .ok (.aload_n 0, 1) := by decide +kernel
theorem dX2_say_30 : decode cX2_say 30 = .ok (.getfield 10, 3) := by decide +kernel
theorem dX2_say_33 : decode cX2_say 33 = .ok (.iload_n 1, 1) := by decide +kernel
theorem dX2_say_34 : decode cX2_say 34 = .ok (.invokevirtual 79, 3) := by decide +kernel
theorem dX2_say_37 : decode cX2_say 37 = .ok (.aload_n 0, 1) := by decide +kernel
theorem dX2_say_38 : decode cX2_say 38 = .ok (.getfield 10, 3) := by decide +kernel
theorem dX2_say_41 : decode cX2_say 41 = .ok (.getfield 76, 3) := by decide +kernel
theorem dX2_say_44 : decode cX2_say 44 = .ok (.ireturn, 1) := by decide +kernel
theorem dX2_wipe_0 : decode cX2_wipe 0 = .ok (.aload_n 0, 1) := by decide +kernel
theorem dX2_wipe_1 : decode cX2_wipe 1 = .ok (.getfield 10, 3) := by decide +kernel
theorem dX2_wipe_4 : decode cX2_wipe 4 = .ok (.getfield 76, 3) := by decide +kernel
theorem dX2_wipe_7 : decode cX2_wipe 7 = .ok (.istore_n 1, 1) := by decide +kernel
theorem dX2_wipe_8 : decode cX2_wipe 8 = .ok (.aload_n 0, 1) := by decide +kernel
theorem dX2_wipe_9 : decode cX2_wipe 9 = .ok (.getfield 10, 3) := by decide +kernel
theorem dX2_wipe_12 : decode cX2_wipe 12 = .ok (.iconst 0, 1) := by decide +kernel
theorem dX2_wipe_13 : decode cX2_wipe 13 = .ok (.putfield 76, 3) := by decide +kernel
theorem dX2_wipe_16 : decode cX2_wipe 16 = .ok (.iload_n 1, 1) := by decide +kernel
theorem dX2_wipe_17 : decode cX2_wipe 17 = .ok (.ireturn, 1) := by decide +kernel
set_option maxRecDepth 20000 in
theorem ggX2_fault_X1_firstFault : GoodIn wsX2_fault wsX1_firstFault := goodIn_r _ [5, 6, 7, 8, 9, 3, 10, 11, 12, 13, 14, 15, 16, 17, 18, 19, 20, 21, 22, 23, 24, 25, 26, 27, 28, 29, 30, 31, 41, 42] (by decide +kernel) (by decide +kernel)
set_option maxRecDepth 20000 in
theorem gX2_fault_X1_firstFault_n83 : GoodIn wsX2_fault (wsX1_firstFault) := ggX2_fault_X1_firstFault
theorem dX2_fault_0 : decode cX2_fault 0 = .ok (.aload_n 0, 1) := by decide +kernel
theorem dX2_fault_1 : decode cX2_fault 1 = .ok (.getfield 10, 3) := by decide +kernel
theorem dX2_fault_4 : decode cX2_fault 4 = .ok (.invokevirtual 83, 3) := by decide +kernel
theorem dX2_fault_7 : decode cX2_fault 7 = .ok (.ireturn, 1) := by decide +kernel
set_option maxRecDepth 20000 in
theorem ggX2_net_X1_firstFault : GoodIn wsX2_net wsX1_firstFault := goodIn_r _ [6, 7, 8, 9, 10, 4, 11, 12, 13, 14, 15, 16, 17, 18, 19, 20, 21, 22, 23, 24, 25, 26, 27, 28, 29, 30, 31, 32, 61, 62] (by decide +kernel) (by decide +kernel)
set_option maxRecDepth 20000 in
theorem gX2_net_X1_firstFault_n83 : GoodIn wsX2_net (wsX1_firstFault) := ggX2_net_X1_firstFault
set_option maxRecDepth 20000 in
theorem ggX2_net_X0_liftAll : GoodIn wsX2_net wsX0_liftAll := goodIn_r _ [36, 37, 38, 39, 34, 40, 41, 42, 43, 44, 45, 46, 47, 48, 27, 18, 28, 63, 64, 65, 66, 67, 68, 69, 70, 71] (by decide +kernel) (by decide +kernel)
set_option maxRecDepth 20000 in
theorem gX2_net_X0_liftAll_n87 : GoodIn wsX2_net (wsX0_liftAll) := ggX2_net_X0_liftAll
set_option maxRecDepth 20000 in
theorem ggX2_net_X1_nodeAt : GoodIn wsX2_net wsX1_nodeAt := goodIn_r _ [16, 12, 61, 62] (by decide +kernel) (by decide +kernel)
set_option maxRecDepth 20000 in
theorem gX2_net_X1_nodeAt_n90 : GoodIn wsX2_net (wsX1_nodeAt) := ggX2_net_X1_nodeAt
set_option maxRecDepth 20000 in
theorem ggX2_net_X1_colourAt : GoodIn wsX2_net wsX1_colourAt := goodIn_r _ [32, 12, 61, 62] (by decide +kernel) (by decide +kernel)
set_option maxRecDepth 20000 in
theorem gX2_net_X1_colourAt_n94 : GoodIn wsX2_net (wsX1_colourAt) := ggX2_net_X1_colourAt
set_option maxRecDepth 20000 in
theorem ggX2_net_X0_lay : GoodIn wsX2_net wsX0_lay := goodIn_r _ [51, 41, 43, 44, 37, 38, 39, 34, 40, 42, 45, 46, 47, 48, 27, 18, 28, 63, 64, 65, 66, 67, 68, 69, 70, 71] (by decide +kernel) (by decide +kernel)
set_option maxRecDepth 20000 in
theorem gX2_net_X0_lay_n72 : GoodIn wsX2_net (wsX0_lay) := ggX2_net_X0_lay
theorem dX2_net_0 : decode cX2_net 0 = .ok (.aload_n 0, 1) := by decide +kernel
theorem dX2_net_1 : decode cX2_net 1 = .ok (.getfield 10, 3) := by decide +kernel
theorem dX2_net_4 : decode cX2_net 4 = .ok (.invokevirtual 83, 3) := by decide +kernel
theorem dX2_net_7 : decode cX2_net 7 = .ok (.bipush (-6), 2) := by decide +kernel
theorem dX2_net_9 : decode cX2_net 9 = .ok (.if_icmp .eq 6, 3) := by decide +kernel
theorem dX2_net_12 : decode cX2_net 12 = .ok (.bipush (-7), 2) := by decide +kernel
theorem dX2_net_14 : decode cX2_net 14 = .ok (.ireturn, 1) := by decide +kernel
theorem dX2_net_15 : decode cX2_net 15 = .ok (.aload_n 0, 1) := by decide +kernel
theorem dX2_net_16 : decode cX2_net 16 = .ok (.getfield 19, 3) := by decide +kernel
theorem dX2_net_19 : decode cX2_net 19 = .ok (.invokevirtual 87, 3) := by decide +kernel
theorem dX2_net_22 : decode cX2_net 22 = .ok (.iconst 0, 1) := by decide +kernel
theorem dX2_net_23 : decode cX2_net 23 = .ok (.istore_n 1, 1) := by decide +kernel
theorem dX2_net_24 : decode cX2_net 24 = .ok (.iload_n 1, 1) := by decide +kernel
theorem dX2_net_25 : decode cX2_net 25 = .ok (.iconst 2, 1) := by decide +kernel
theorem dX2_net_26 : decode cX2_net 26 = .ok (.iadd, 1) := by decide +kernel
theorem dX2_net_27 : decode cX2_net 27 = .ok (.aload_n 0, 1) := by decide +kernel
theorem dX2_net_28 : decode cX2_net 28 = .ok (.getfield 10, 3) := by decide +kernel
theorem dX2_net_31 : decode cX2_net 31 = .ok (.getfield 76, 3) := by decide +kernel
theorem dX2_net_34 : decode cX2_net 34 = .ok (.if_icmp .ge 44, 3) := by decide +kernel
theorem dX2_net_37 : decode cX2_net 37 = .ok (.aload_n 0, 1) := by decide +kernel
theorem dX2_net_38 : decode cX2_net 38 = .ok (.getfield 19, 3) := by decide +kernel
theorem dX2_net_41 : decode cX2_net 41 = .ok (.aload_n 0, 1) := by decide +kernel
theorem dX2_net_42 : decode cX2_net 42 = .ok (.getfield 10, 3) := by decide +kernel
theorem dX2_net_45 : decode cX2_net 45 = .ok (.iload_n 1, 1) := by decide +kernel
theorem dX2_net_46 : decode cX2_net 46 = .ok (.invokevirtual 90, 3) := by decide +kernel
theorem dX2_net_49 : decode cX2_net 49 = .ok (.aload_n 0, 1) := by decide +kernel
theorem dX2_net_50 : decode cX2_net 50 = .ok (.getfield 10, 3) := by decide +kernel
theorem dX2_net_53 : decode cX2_net 53 = .ok (.iload_n 1, 1) := by decide +kernel
theorem dX2_net_54 : decode cX2_net 54 = .ok (.iconst 1, 1) := by decide +kernel
theorem dX2_net_55 : decode cX2_net 55 = .ok (.iadd, 1) := by decide +kernel
theorem dX2_net_56 : decode cX2_net 56 = .ok (.invokevirtual 90, 3) := by decide +kernel
theorem dX2_net_59 : decode cX2_net 59 = .ok (.aload_n 0, 1) := by decide +kernel
theorem dX2_net_60 : decode cX2_net 60 = .ok (.getfield 10, 3) := by decide +kernel
theorem dX2_net_63 : decode cX2_net 63 = .ok (.iload_n 1, 1) := by decide +kernel
theorem dX2_net_64 : decode cX2_net 64 = .ok (.iconst 2, 1) := by decide +kernel
theorem dX2_net_65 : decode cX2_net 65 = .ok (.iadd, 1) := by decide +kernel
theorem dX2_net_66 : decode cX2_net 66 = .ok (.invokevirtual 94, 3) := by decide +kernel
theorem dX2_net_69 : decode cX2_net 69 = .ok (.invokevirtual 72, 3) := by decide +kernel
theorem dX2_net_72 : decode cX2_net 72 = .ok (.iinc 1 3, 3) := by decide +kernel
theorem dX2_net_75 : decode cX2_net 75 = .ok (.goto (-51), 3) := by decide +kernel
theorem dX2_net_78 : decode cX2_net 78 = .ok (.aload_n 0, 1) := by decide +kernel
theorem dX2_net_79 : decode cX2_net 79 = .ok (.getfield 10, 3) := by decide +kernel
theorem dX2_net_82 : decode cX2_net 82 = .ok (.iconst 0, 1) := by decide +kernel
theorem dX2_net_83 : decode cX2_net 83 = .ok (.putfield 76, 3) := by decide +kernel
theorem dX2_net_86 : decode cX2_net 86 = .ok (.aload_n 0, 1) := by decide +kernel
theorem dX2_net_87 : decode cX2_net 87 = .ok (.getfield 19, 3) := by decide +kernel
theorem dX2_net_90 : decode cX2_net 90 = .ok (.getfield 65, 3) := by decide +kernel
theorem dX2_net_93 : decode cX2_net 93 = .ok (.ireturn, 1) := by decide +kernel
set_option maxRecDepth 20000 in
theorem ggX2_jobs_X2_isNode : GoodIn wsX2_jobs wsX2_isNode := goodIn_r _ [5, 6, 7, 4, 8] (by decide +kernel) (by decide +kernel)
set_option maxRecDepth 20000 in
theorem gX2_jobs_X2_isNode : GoodIn wsX2_jobs (va_wsS RX2 46 yX2_isNode wsX2_isNode) := goodIn_app (goodIn_of _ (by decide +kernel)) ggX2_jobs_X2_isNode
theorem dX2_jobs_0 : decode cX2_jobs 0 = .ok (.iload_n 1, 1) := by decide +kernel
theorem dX2_jobs_1 : decode cX2_jobs 1 = .ok (.invokestatic 46, 3) := by decide +kernel
theorem dX2_jobs_4 : decode cX2_jobs 4 = .ok (.ifCond .ne 5, 3) := by decide +kernel
theorem dX2_jobs_7 : decode cX2_jobs 7 = .ok (.iconst (-1), 1) := by decide +kernel
theorem dX2_jobs_8 : decode cX2_jobs 8 = .ok (.ireturn, 1) := by decide +kernel
theorem dX2_jobs_9 : decode cX2_jobs 9 = .ok (.aload_n 0, 1) := by decide +kernel
theorem dX2_jobs_10 : decode cX2_jobs 10 = .ok (.getfield 19, 3) := by decide +kernel
theorem dX2_jobs_13 : decode cX2_jobs 13 = .ok (.getfield 54, 3) := by decide +kernel
theorem dX2_jobs_16 : decode cX2_jobs 16 = .ok (.iload_n 1, 1) := by decide +kernel
theorem dX2_jobs_17 : decode cX2_jobs 17 = .ok (.iaload, 1) := by decide +kernel
theorem dX2_jobs_18 : decode cX2_jobs 18 = .ok (.sipush 10000, 3) := by decide +kernel
theorem dX2_jobs_21 : decode cX2_jobs 21 = .ok (.iadd, 1) := by decide +kernel
theorem dX2_jobs_22 : decode cX2_jobs 22 = .ok (.ireturn, 1) := by decide +kernel
set_option maxRecDepth 20000 in
theorem ggX2_told_X2_isNode : GoodIn wsX2_told wsX2_isNode := goodIn_r _ [5, 6, 7, 4, 8] (by decide +kernel) (by decide +kernel)
set_option maxRecDepth 20000 in
theorem gX2_told_X2_isNode : GoodIn wsX2_told (va_wsS RX2 46 yX2_isNode wsX2_isNode) := goodIn_app (goodIn_of _ (by decide +kernel)) ggX2_told_X2_isNode
set_option maxRecDepth 20000 in
theorem ggX2_told_X0_rotorLeftOver : GoodIn wsX2_told wsX0_rotorLeftOver := goodIn_r _ [12, 13, 14, 15, 16, 10, 17, 18, 39, 40, 41, 42, 43, 44, 45, 46, 47] (by decide +kernel) (by decide +kernel)
set_option maxRecDepth 20000 in
theorem gX2_told_X0_rotorLeftOver_n100 : GoodIn wsX2_told (wsX0_rotorLeftOver) := ggX2_told_X0_rotorLeftOver
set_option maxRecDepth 20000 in
theorem ggX2_told_X2_toldColour : GoodIn wsX2_told wsX2_toldColour := goodIn_r _ [22, 1, 6, 7, 4, 8, 23, 10, 24, 25, 26, 27, 28, 29, 30, 31, 32, 33, 34, 35, 36, 37, 38, 39, 40, 41, 42, 43, 44, 45, 46, 47] (by decide +kernel) (by decide +kernel)
set_option maxRecDepth 20000 in
theorem gX2_told_X2_toldColour : GoodIn wsX2_told (wsV RX2 103 RX2 yX2_toldColour wsX2_toldColour) := goodIn_app (goodIn_of _ (by decide +kernel)) ggX2_told_X2_toldColour
theorem dX2_told_0 : decode cX2_told 0 = .ok (.iload_n 1, 1) := by decide +kernel
theorem dX2_told_1 : decode cX2_told 1 = .ok (.invokestatic 46, 3) := by decide +kernel
theorem dX2_told_4 : decode cX2_told 4 = .ok (.ifCond .ne 5, 3) := by decide +kernel
theorem dX2_told_7 : decode cX2_told 7 = .ok (.iconst (-1), 1) := by decide +kernel
theorem dX2_told_8 : decode cX2_told 8 = .ok (.ireturn, 1) := by decide +kernel
theorem dX2_told_9 : decode cX2_told 9 = .ok (.iload_n 2, 1) := by decide +kernel
theorem dX2_told_10 : decode cX2_told 10 = .ok (.tableswitch 55 0 2 #[26, 36, 46], 26) := by decide +kernel
theorem dX2_told_36 : decode cX2_told 36 = .ok (.aload_n 0, 1) := by decide +kernel
theorem dX2_told_37 : decode cX2_told 37 = .ok (.getfield 19, 3) := by decide +kernel
theorem dX2_told_40 : decode cX2_told 40 = .ok (.getfield 58, 3) := by decide +kernel
theorem dX2_told_43 : decode cX2_told 43 = .ok (.iload_n 1, 1) := by decide +kernel
theorem dX2_told_44 : decode cX2_told 44 = .ok (.iaload, 1) := by decide +kernel
theorem dX2_told_45 : decode cX2_told 45 = .ok (.ireturn, 1) := by decide +kernel
theorem dX2_told_46 : decode cX2_told 46 = .ok (.aload_n 0, 1) := by decide +kernel
theorem dX2_told_47 : decode cX2_told 47 = .ok (.getfield 19, 3) := by decide +kernel
theorem dX2_told_50 : decode cX2_told 50 = .ok (.getfield 97, 3) := by decide +kernel
theorem dX2_told_53 : decode cX2_told 53 = .ok (.iload_n 1, 1) := by decide +kernel
theorem dX2_told_54 : decode cX2_told 54 = .ok (.iaload, 1) := by decide +kernel
theorem dX2_told_55 : decode cX2_told 55 = .ok (.ireturn, 1) := by decide +kernel
theorem dX2_told_56 : decode cX2_told 56 = .ok (.aload_n 0, 1) := by decide +kernel
theorem dX2_told_57 : decode cX2_told 57 = .ok (.getfield 19, 3) := by decide +kernel
theorem dX2_told_60 : decode cX2_told 60 = .ok (.iload_n 1, 1) := by decide +kernel
theorem dX2_told_61 : decode cX2_told 61 = .ok (.invokevirtual 100, 3) := by decide +kernel
theorem dX2_told_64 : decode cX2_told 64 = .ok (.ireturn, 1) := by decide +kernel
theorem dX2_told_65 : decode cX2_told 65 = .ok (.aload_n 0, 1) := by decide +kernel
theorem dX2_told_66 : decode cX2_told 66 = .ok (.iload_n 1, 1) := by decide +kernel
theorem dX2_told_67 : decode cX2_told 67 = .ok (.iload_n 2, 1) := by decide +kernel
theorem dX2_told_68 : decode cX2_told 68 = .ok (.invokevirtual 103, 3) := by decide +kernel
theorem dX2_told_71 : decode cX2_told 71 = .ok (.ireturn, 1) := by decide +kernel
set_option maxRecDepth 20000 in
theorem ggX2_toldColour_X2_isWithin : GoodIn wsX2_toldColour wsX2_isWithin := goodIn_r _ [5] (by decide +kernel) (by decide +kernel)
set_option maxRecDepth 20000 in
theorem gX2_toldColour_X2_isWithin : GoodIn wsX2_toldColour (va_wsS RX2 50 yX2_isWithin wsX2_isWithin) := goodIn_app (goodIn_of _ (by decide +kernel)) ggX2_toldColour_X2_isWithin
set_option maxRecDepth 20000 in
theorem ggX2_toldColour_X0_joins : GoodIn wsX2_toldColour wsX0_joins := goodIn_r _ [9, 10, 11, 4, 12, 23, 24, 25, 26, 27, 28, 29, 30, 31] (by decide +kernel) (by decide +kernel)
set_option maxRecDepth 20000 in
theorem gX2_toldColour_X0_joins_n68 : GoodIn wsX2_toldColour (wsX0_joins) := ggX2_toldColour_X0_joins
set_option maxRecDepth 20000 in
theorem ggX2_toldColour_X2_spot : GoodIn wsX2_toldColour wsX2_spot := goodIn_r _ [12] (by decide +kernel) (by decide +kernel)
set_option maxRecDepth 20000 in
theorem gX2_toldColour_X2_spot : GoodIn wsX2_toldColour (va_wsS RX2 110 yX2_spot wsX2_spot) := goodIn_app (goodIn_of _ (by decide +kernel)) ggX2_toldColour_X2_spot
theorem dX2_toldColour_0 : decode cX2_toldColour 0 = .ok (.iload_n 2, 1) := by decide +kernel
theorem dX2_toldColour_1 : decode cX2_toldColour 1 = .ok (.bipush 10, 2) := by decide +kernel
theorem dX2_toldColour_3 : decode cX2_toldColour 3 = .ok (.bipush 17, 2) := by decide +kernel
theorem dX2_toldColour_5 : decode cX2_toldColour 5 = .ok (.invokestatic 50, 3) := by decide +kernel
theorem dX2_toldColour_8 : decode cX2_toldColour 8 = .ok (.ifCond .ne 6, 3) := by decide +kernel
theorem dX2_toldColour_11 : decode cX2_toldColour 11 = .ok (.bipush (-2), 2) := by decide +kernel
theorem dX2_toldColour_13 : decode cX2_toldColour 13 = .ok (.ireturn, 1) := by decide +kernel
theorem dX2_toldColour_14 : decode cX2_toldColour 14 = .ok (.iload_n 2, 1) := by decide +kernel
theorem dX2_toldColour_15 : decode cX2_toldColour 15 = .ok (.bipush 10, 2) := by decide +kernel
theorem dX2_toldColour_17 : decode cX2_toldColour 17 = .ok (.isub, 1) := by decide +kernel
theorem dX2_toldColour_18 : decode cX2_toldColour 18 = .ok (.istore_n 3, 1) := by decide +kernel
theorem dX2_toldColour_19 : decode cX2_toldColour 19 = .ok (.aload_n 0, 1) := by decide +kernel
theorem dX2_toldColour_20 : decode cX2_toldColour 20 = .ok (.getfield 19, 3) := by decide +kernel
theorem dX2_toldColour_23 : decode cX2_toldColour 23 = .ok (.iload_n 1, 1) := by decide +kernel
theorem dX2_toldColour_24 : decode cX2_toldColour 24 = .ok (.iload_n 3, 1) := by decide +kernel
theorem dX2_toldColour_25 : decode cX2_toldColour 25 = .ok (.invokevirtual 68, 3) := by decide +kernel
theorem dX2_toldColour_28 : decode cX2_toldColour 28 = .ok (.ifCond .eq 19, 3) := by decide +kernel
theorem dX2_toldColour_31 : decode cX2_toldColour 31 = .ok (.aload_n 0, 1) := by decide +kernel
theorem dX2_toldColour_32 : decode cX2_toldColour 32 = .ok (.getfield 19, 3) := by decide +kernel
theorem dX2_toldColour_35 : decode cX2_toldColour 35 = .ok (.getfield 107, 3) := by decide +kernel
theorem dX2_toldColour_38 : decode cX2_toldColour 38 = .ok (.iload_n 1, 1) := by decide +kernel
theorem dX2_toldColour_39 : decode cX2_toldColour 39 = .ok (.iload_n 3, 1) := by decide +kernel
theorem dX2_toldColour_40 : decode cX2_toldColour 40 = .ok (.invokestatic 110, 3) := by decide +kernel
theorem dX2_toldColour_43 : decode cX2_toldColour 43 = .ok (.iaload, 1) := by decide +kernel
theorem dX2_toldColour_44 : decode cX2_toldColour 44 = .ok (.goto 5, 3) := by decide +kernel
theorem dX2_toldColour_47 : decode cX2_toldColour 47 = .ok (.bipush (-6), 2) := by decide +kernel
theorem dX2_toldColour_49 : decode cX2_toldColour 49 = .ok (.ireturn, 1) := by decide +kernel
set_option maxRecDepth 20000 in
theorem ggX2_carry_X2_isNode : GoodIn wsX2_carry wsX2_isNode := goodIn_r _ [5, 6, 7, 4, 8] (by decide +kernel) (by decide +kernel)
set_option maxRecDepth 20000 in
theorem gX2_carry_X2_isNode : GoodIn wsX2_carry (va_wsS RX2 46 yX2_isNode wsX2_isNode) := goodIn_app (goodIn_of _ (by decide +kernel)) ggX2_carry_X2_isNode
set_option maxRecDepth 20000 in
theorem ggX2_carry_X0_joins : GoodIn wsX2_carry wsX0_joins := goodIn_r _ [12, 13, 14, 4, 15, 26, 27, 28, 29, 30, 31, 32, 33, 34] (by decide +kernel) (by decide +kernel)
set_option maxRecDepth 20000 in
theorem gX2_carry_X0_joins_n68 : GoodIn wsX2_carry (wsX0_joins) := ggX2_carry_X0_joins
set_option maxRecDepth 20000 in
theorem ggX2_carry_X2_spot : GoodIn wsX2_carry wsX2_spot := goodIn_r _ [15] (by decide +kernel) (by decide +kernel)
set_option maxRecDepth 20000 in
theorem gX2_carry_X2_spot : GoodIn wsX2_carry (va_wsS RX2 110 yX2_spot wsX2_spot) := goodIn_app (goodIn_of _ (by decide +kernel)) ggX2_carry_X2_spot
theorem dX2_carry_0 : decode cX2_carry 0 = .ok (.iload_n 1, 1) := by decide +kernel
theorem dX2_carry_1 : decode cX2_carry 1 = .ok (.invokestatic 46, 3) := by decide +kernel
theorem dX2_carry_4 : decode cX2_carry 4 = .ok (.ifCond .eq 10, 3) := by decide +kernel
theorem dX2_carry_7 : decode cX2_carry 7 = .ok (.iload_n 2, 1) := by decide +kernel
theorem dX2_carry_8 : decode cX2_carry 8 = .ok (.invokestatic 46, 3) := by decide +kernel
theorem dX2_carry_11 : decode cX2_carry 11 = .ok (.ifCond .ne 5, 3) := by decide +kernel
theorem dX2_carry_14 : decode cX2_carry 14 = .ok (.iconst (-1), 1) := by decide +kernel
theorem dX2_carry_15 : decode cX2_carry 15 = .ok (.ireturn, 1) := by decide +kernel
theorem dX2_carry_16 : decode cX2_carry 16 = .ok (.iload_n 1, 1) := by decide +kernel
theorem dX2_carry_17 : decode cX2_carry 17 = .ok (.iload_n 2, 1) := by decide +kernel
theorem dX2_carry_18 : decode cX2_carry 18 = .ok (.if_icmp .ne 6, 3) := by decide +kernel
theorem dX2_carry_21 : decode cX2_carry 21 = .ok (.bipush (-2), 2) := by decide +kernel
theorem dX2_carry_23 : decode cX2_carry 23 = .ok (.ireturn, 1) := by decide +kernel
theorem dX2_carry_24 : decode cX2_carry 24 = .ok (.aload_n 0, 1) := by decide +kernel
theorem dX2_carry_25 : decode cX2_carry 25 = .ok (.getfield 19, 3) := by decide +kernel
theorem dX2_carry_28 : decode cX2_carry 28 = .ok (.iload_n 1, 1) := by decide +kernel
theorem dX2_carry_29 : decode cX2_carry 29 = .ok (.iload_n 2, 1) := by decide +kernel
theorem dX2_carry_30 : decode cX2_carry 30 = .ok (.invokevirtual 68, 3) := by decide +kernel
theorem dX2_carry_33 : decode cX2_carry 33 = .ok (.ifCond .eq 23, 3) := by decide +kernel
theorem dX2_carry_36 : decode cX2_carry 36 = .ok (.aload_n 0, 1) := by decide +kernel
theorem dX2_carry_37 : decode cX2_carry 37 = .ok (.getfield 19, 3) := by decide +kernel
theorem dX2_carry_40 : decode cX2_carry 40 = .ok (.getfield 113, 3) := by decide +kernel
theorem dX2_carry_43 : decode cX2_carry 43 = .ok (.iload_n 1, 1) := by decide +kernel
theorem dX2_carry_44 : decode cX2_carry 44 = .ok (.iload_n 2, 1) := by decide +kernel
theorem dX2_carry_45 : decode cX2_carry 45 = .ok (.invokestatic 110, 3) := by decide +kernel
theorem dX2_carry_48 : decode cX2_carry 48 = .ok (.iaload, 1) := by decide +kernel
theorem dX2_carry_49 : decode cX2_carry 49 = .ok (.sipush 10000, 3) := by decide +kernel
theorem dX2_carry_52 : decode cX2_carry 52 = .ok (.iadd, 1) := by decide +kernel
theorem dX2_carry_53 : decode cX2_carry 53 = .ok (.goto 5, 3) := by decide +kernel
theorem dX2_carry_56 : decode cX2_carry 56 = .ok (.bipush (-6), 2) := by decide +kernel
theorem dX2_carry_58 : decode cX2_carry 58 = .ok (.ireturn, 1) := by decide +kernel
set_option maxRecDepth 20000 in
theorem ggX2_run_X2_isRule : GoodIn wsX2_run wsX2_isRule := goodIn_r _ [5, 6, 7, 4, 8] (by decide +kernel) (by decide +kernel)
set_option maxRecDepth 20000 in
theorem gX2_run_X2_isRule : GoodIn wsX2_run (va_wsS RX2 116 yX2_isRule wsX2_isRule) := goodIn_app (goodIn_of _ (by decide +kernel)) ggX2_run_X2_isRule
set_option maxRecDepth 20000 in
theorem ggX2_run_X2_isWithin : GoodIn wsX2_run wsX2_isWithin := goodIn_r _ [8] (by decide +kernel) (by decide +kernel)
set_option maxRecDepth 20000 in
theorem gX2_run_X2_isWithin : GoodIn wsX2_run (va_wsS RX2 50 yX2_isWithin wsX2_isWithin) := goodIn_app (goodIn_of _ (by decide +kernel)) ggX2_run_X2_isWithin
set_option maxRecDepth 20000 in
theorem ggX2_run_X0_goOn : GoodIn wsX2_run wsX0_goOn := goodIn_r _ [12, 13, 14, 15, 16, 10, 17, 18, 19, 20, 21, 22, 23, 24, 25, 26, 27, 28, 29, 30, 31, 32, 33, 34, 35, 36, 4, 37, 38, 39, 40, 41, 42, 43, 44, 45, 46, 47, 48, 49, 50, 51, 52, 53, 54, 55, 56, 57, 58, 59, 60, 61, 62, 63, 64, 65, 66, 67, 68, 69, 70, 71, 72, 73, 74, 75, 76, 77, 78, 79, 80, 81, 91, 92, 93, 94, 95, 96, 97, 98, 99] (by decide +kernel) (by decide +kernel)
set_option maxRecDepth 20000 in
theorem gX2_run_X0_goOn_n119 : GoodIn wsX2_run (wsX0_goOn) := ggX2_run_X0_goOn
theorem dX2_run_0 : decode cX2_run 0 = .ok (.iload_n 1, 1) := by decide +kernel
theorem dX2_run_1 : decode cX2_run 1 = .ok (.invokestatic 116, 3) := by decide +kernel
theorem dX2_run_4 : decode cX2_run 4 = .ok (.ifCond .eq 13, 3) := by decide +kernel
theorem dX2_run_7 : decode cX2_run 7 = .ok (.iload_n 2, 1) := by decide +kernel
theorem dX2_run_8 : decode cX2_run 8 = .ok (.iconst 1, 1) := by decide +kernel
theorem dX2_run_9 : decode cX2_run 9 = .ok (.bipush 50, 2) := by decide +kernel
theorem dX2_run_11 : decode cX2_run 11 = .ok (.invokestatic 50, 3) := by decide +kernel
theorem dX2_run_14 : decode cX2_run 14 = .ok (.ifCond .ne 6, 3) := by decide +kernel
theorem dX2_run_17 : decode cX2_run 17 = .ok (.bipush (-2), 2) := by decide +kernel
theorem dX2_run_19 : decode cX2_run 19 = .ok (.ireturn, 1) := by decide +kernel
theorem dX2_run_20 : decode cX2_run 20 = .ok (.aload_n 0, 1) := by decide +kernel
theorem dX2_run_21 : decode cX2_run 21 = .ok (.getfield 19, 3) := by decide +kernel
theorem dX2_run_24 : decode cX2_run 24 = .ok (.iload_n 1, 1) := by decide +kernel
theorem dX2_run_25 : decode cX2_run 25 = .ok (.iload_n 2, 1) := by decide +kernel
theorem dX2_run_26 : decode cX2_run 26 = .ok (.invokevirtual 119, 3) := by decide +kernel
theorem dX2_run_29 : decode cX2_run 29 = .ok (.ireturn, 1) := by decide +kernel
set_option maxRecDepth 20000 in
theorem ggX2_reset_X0_startAgain : GoodIn wsX2_reset wsX0_startAgain := goodIn_r _ [5, 6, 7, 8, 18, 19, 20, 21, 22, 23, 24, 25, 26] (by decide +kernel) (by decide +kernel)
set_option maxRecDepth 20000 in
theorem gX2_reset_X0_startAgain_n125 : GoodIn wsX2_reset (wsX0_startAgain) := ggX2_reset_X0_startAgain
theorem dX2_reset_0 : decode cX2_reset 0 = .ok (.aload_n 0, 1) := by decide +kernel
theorem dX2_reset_1 : decode cX2_reset 1 = .ok (.getfield 19, 3) := by decide +kernel
theorem dX2_reset_4 : decode cX2_reset 4 = .ok (.getfield 122, 3) := by decide +kernel
theorem dX2_reset_7 : decode cX2_reset 7 = .ok (.istore_n 1, 1) := by decide +kernel
theorem dX2_reset_8 : decode cX2_reset 8 = .ok (.aload_n 0, 1) := by decide +kernel
theorem dX2_reset_9 : decode cX2_reset 9 = .ok (.getfield 19, 3) := by decide +kernel
theorem dX2_reset_12 : decode cX2_reset 12 = .ok (.invokevirtual 125, 3) := by decide +kernel
theorem dX2_reset_15 : decode cX2_reset 15 = .ok (.iload_n 1, 1) := by decide +kernel
theorem dX2_reset_16 : decode cX2_reset 16 = .ok (.ireturn, 1) := by decide +kernel
set_option maxRecDepth 20000 in
theorem ggX2_uneven_X2_isPart : GoodIn wsX2_uneven wsX2_isPart := goodIn_r _ [5, 6, 7, 4, 8] (by decide +kernel) (by decide +kernel)
set_option maxRecDepth 20000 in
theorem gX2_uneven_X2_isPart : GoodIn wsX2_uneven (va_wsS RX2 128 yX2_isPart wsX2_isPart) := goodIn_app (goodIn_of _ (by decide +kernel)) ggX2_uneven_X2_isPart
set_option maxRecDepth 20000 in
theorem ggX2_uneven_X0_mostLoaded : GoodIn wsX2_uneven wsX0_mostLoaded := goodIn_r _ [12, 13, 14, 15, 10, 16, 17, 18, 41, 42, 43, 44, 45, 46, 47, 48, 49] (by decide +kernel) (by decide +kernel)
set_option maxRecDepth 20000 in
theorem gX2_uneven_X0_mostLoaded_n131 : GoodIn wsX2_uneven (wsX0_mostLoaded) := ggX2_uneven_X0_mostLoaded
set_option maxRecDepth 20000 in
theorem ggX2_uneven_X0_leastLoaded : GoodIn wsX2_uneven wsX0_leastLoaded := goodIn_r _ [21, 13, 14, 15, 10, 16, 17, 18, 41, 42, 43, 44, 45, 46, 47, 48, 49] (by decide +kernel) (by decide +kernel)
set_option maxRecDepth 20000 in
theorem gX2_uneven_X0_leastLoaded_n134 : GoodIn wsX2_uneven (wsX0_leastLoaded) := ggX2_uneven_X0_leastLoaded
set_option maxRecDepth 20000 in
theorem ggX2_uneven_X0_loadGap : GoodIn wsX2_uneven wsX0_loadGap := goodIn_r _ [16, 17, 18, 41, 42, 43, 44, 45, 46, 47, 48, 49] (by decide +kernel) (by decide +kernel)
set_option maxRecDepth 20000 in
theorem gX2_uneven_X0_loadGap_n137 : GoodIn wsX2_uneven (wsX0_loadGap) := ggX2_uneven_X0_loadGap
set_option maxRecDepth 20000 in
theorem ggX2_uneven_X2_partOf : GoodIn wsX2_uneven wsX2_partOf := goodIn_r _ [24, 25, 26, 4, 27, 28, 29, 30, 31] (by decide +kernel) (by decide +kernel)
set_option maxRecDepth 20000 in
theorem gX2_uneven_X2_partOf : GoodIn wsX2_uneven (va_wsS RX2 141 yX2_partOf wsX2_partOf) := goodIn_app (goodIn_of _ (by decide +kernel)) ggX2_uneven_X2_partOf
theorem dX2_uneven_0 : decode cX2_uneven 0 = .ok (.iload_n 1, 1) := by decide +kernel
theorem dX2_uneven_1 : decode cX2_uneven 1 = .ok (.invokestatic 128, 3) := by decide +kernel
theorem dX2_uneven_4 : decode cX2_uneven 4 = .ok (.ifCond .ne 6, 3) := by decide +kernel
theorem dX2_uneven_7 : decode cX2_uneven 7 = .ok (.bipush (-2), 2) := by decide +kernel
theorem dX2_uneven_9 : decode cX2_uneven 9 = .ok (.ireturn, 1) := by decide +kernel
theorem dX2_uneven_10 : decode cX2_uneven 10 = .ok (.aload_n 0, 1) := by decide +kernel
theorem dX2_uneven_11 : decode cX2_uneven 11 = .ok (.getfield 19, 3) := by decide +kernel
theorem dX2_uneven_14 : decode cX2_uneven 14 = .ok (.invokevirtual 131, 3) := by decide +kernel
theorem dX2_uneven_17 : decode cX2_uneven 17 = .ok (.istore_n 2, 1) := by decide +kernel
theorem dX2_uneven_18 : decode cX2_uneven 18 = .ok (.aload_n 0, 1) := by decide +kernel
theorem dX2_uneven_19 : decode cX2_uneven 19 = .ok (.getfield 19, 3) := by decide +kernel
theorem dX2_uneven_22 : decode cX2_uneven 22 = .ok (.invokevirtual 134, 3) := by decide +kernel
theorem dX2_uneven_25 : decode cX2_uneven 25 = .ok (.istore_n 3, 1) := by decide +kernel
theorem dX2_uneven_26 : decode cX2_uneven 26 = .ok (.aload_n 0, 1) := by decide +kernel
theorem dX2_uneven_27 : decode cX2_uneven 27 = .ok (.getfield 19, 3) := by decide +kernel
theorem dX2_uneven_30 : decode cX2_uneven 30 = .ok (.iload_n 2, 1) := by decide +kernel
theorem dX2_uneven_31 : decode cX2_uneven 31 = .ok (.iload_n 3, 1) := by decide +kernel
theorem dX2_uneven_32 : decode cX2_uneven 32 = .ok (.invokevirtual 137, 3) := by decide +kernel
theorem dX2_uneven_35 : decode cX2_uneven 35 = .ok (.aload_n 0, 1) := by decide +kernel
theorem dX2_uneven_36 : decode cX2_uneven 36 = .ok (.getfield 19, 3) := by decide +kernel
theorem dX2_uneven_39 : decode cX2_uneven 39 = .ok (.getfield 58, 3) := by decide +kernel
theorem dX2_uneven_42 : decode cX2_uneven 42 = .ok (.iload_n 2, 1) := by decide +kernel
theorem dX2_uneven_43 : decode cX2_uneven 43 = .ok (.iaload, 1) := by decide +kernel
theorem dX2_uneven_44 : decode cX2_uneven 44 = .ok (.i2l, 1) := by decide +kernel
theorem dX2_uneven_45 : decode cX2_uneven 45 = .ok (.aload_n 0, 1) := by decide +kernel
theorem dX2_uneven_46 : decode cX2_uneven 46 = .ok (.getfield 19, 3) := by decide +kernel
theorem dX2_uneven_49 : decode cX2_uneven 49 = .ok (.getfield 58, 3) := by decide +kernel
theorem dX2_uneven_52 : decode cX2_uneven 52 = .ok (.iload_n 3, 1) := by decide +kernel
theorem dX2_uneven_53 : decode cX2_uneven 53 = .ok (.iaload, 1) := by decide +kernel
theorem dX2_uneven_54 : decode cX2_uneven 54 = .ok (.i2l, 1) := by decide +kernel
theorem dX2_uneven_55 : decode cX2_uneven 55 = .ok (.lmul, 1) := by decide +kernel
theorem dX2_uneven_56 : decode cX2_uneven 56 = .ok (.iload_n 1, 1) := by decide +kernel
theorem dX2_uneven_57 : decode cX2_uneven 57 = .ok (.invokestatic 141, 3) := by decide +kernel
theorem dX2_uneven_60 : decode cX2_uneven 60 = .ok (.l2i, 1) := by decide +kernel
theorem dX2_uneven_61 : decode cX2_uneven 61 = .ok (.ireturn, 1) := by decide +kernel
set_option maxRecDepth 20000 in
theorem ggX2_share_X2_isNode : GoodIn wsX2_share wsX2_isNode := goodIn_r _ [5, 6, 7, 4, 8] (by decide +kernel) (by decide +kernel)
set_option maxRecDepth 20000 in
theorem gX2_share_X2_isNode : GoodIn wsX2_share (va_wsS RX2 46 yX2_isNode wsX2_isNode) := goodIn_app (goodIn_of _ (by decide +kernel)) ggX2_share_X2_isNode
set_option maxRecDepth 20000 in
theorem ggX2_share_X2_isPart : GoodIn wsX2_share wsX2_isPart := goodIn_r _ [11, 6, 7, 4, 8] (by decide +kernel) (by decide +kernel)
set_option maxRecDepth 20000 in
theorem gX2_share_X2_isPart : GoodIn wsX2_share (va_wsS RX2 128 yX2_isPart wsX2_isPart) := goodIn_app (goodIn_of _ (by decide +kernel)) ggX2_share_X2_isPart
set_option maxRecDepth 20000 in
theorem ggX2_share_X0_allJobs : GoodIn wsX2_share wsX0_allJobs := goodIn_r _ [15, 16, 40, 41, 42, 43, 44, 45, 46, 47, 48] (by decide +kernel) (by decide +kernel)
set_option maxRecDepth 20000 in
theorem gX2_share_X0_allJobs_n145 : GoodIn wsX2_share (wsX0_allJobs) := ggX2_share_X0_allJobs
set_option maxRecDepth 20000 in
theorem ggX2_share_X0_allSpeeds : GoodIn wsX2_share wsX0_allSpeeds := goodIn_r _ [19, 20, 40, 41, 42, 43, 44, 45, 46, 47, 48] (by decide +kernel) (by decide +kernel)
set_option maxRecDepth 20000 in
theorem gX2_share_X0_allSpeeds_n149 : GoodIn wsX2_share (wsX0_allSpeeds) := ggX2_share_X0_allSpeeds
set_option maxRecDepth 20000 in
theorem ggX2_share_X2_partOf : GoodIn wsX2_share wsX2_partOf := goodIn_r _ [23, 24, 25, 4, 26, 27, 28, 29, 30] (by decide +kernel) (by decide +kernel)
set_option maxRecDepth 20000 in
theorem gX2_share_X2_partOf : GoodIn wsX2_share (va_wsS RX2 141 yX2_partOf wsX2_partOf) := goodIn_app (goodIn_of _ (by decide +kernel)) ggX2_share_X2_partOf
theorem dX2_share_0 : decode cX2_share 0 = .ok (.iload_n 1, 1) := by decide +kernel
theorem dX2_share_1 : decode cX2_share 1 = .ok (.invokestatic 46, 3) := by decide +kernel
theorem dX2_share_4 : decode cX2_share 4 = .ok (.ifCond .ne 5, 3) := by decide +kernel
theorem dX2_share_7 : decode cX2_share 7 = .ok (.iconst (-1), 1) := by decide +kernel
theorem dX2_share_8 : decode cX2_share 8 = .ok (.ireturn, 1) := by decide +kernel
theorem dX2_share_9 : decode cX2_share 9 = .ok (.iload_n 2, 1) := by decide +kernel
theorem dX2_share_10 : decode cX2_share 10 = .ok (.invokestatic 128, 3) := by decide +kernel
theorem dX2_share_13 : decode cX2_share 13 = .ok (.ifCond .ne 6, 3) := by decide +kernel
theorem dX2_share_16 : decode cX2_share 16 = .ok (.bipush (-2), 2) := by decide +kernel
theorem dX2_share_18 : decode cX2_share 18 = .ok (.ireturn, 1) := by decide +kernel
theorem dX2_share_19 : decode cX2_share 19 = .ok (.aload_n 0, 1) := by decide +kernel
theorem dX2_share_20 : decode cX2_share 20 = .ok (.getfield 19, 3) := by decide +kernel
theorem dX2_share_23 : decode cX2_share 23 = .ok (.invokevirtual 145, 3) := by decide +kernel
theorem dX2_share_26 : decode cX2_share 26 = .ok (.lstore_n 3, 1) := by decide +kernel
theorem dX2_share_27 : decode cX2_share 27 = .ok (.lload_n 3, 1) := by decide +kernel
theorem dX2_share_28 : decode cX2_share 28 = .ok (.lconst 0, 1) := by decide +kernel
theorem dX2_share_29 : decode cX2_share 29 = .ok (.lcmp, 1) := by decide +kernel
theorem dX2_share_30 : decode cX2_share 30 = .ok (.ifCond .ge 6, 3) := by decide +kernel
theorem dX2_share_33 : decode cX2_share 33 = .ok (.bipush (-3), 2) := by decide +kernel
theorem dX2_share_35 : decode cX2_share 35 = .ok (.ireturn, 1) := by decide +kernel
theorem dX2_share_36 : decode cX2_share 36 = .ok (.lload_n 3, 1) := by decide +kernel
theorem dX2_share_37 : decode cX2_share 37 = .ok (.aload_n 0, 1) := by decide +kernel
theorem dX2_share_38 : decode cX2_share 38 = .ok (.getfield 19, 3) := by decide +kernel
theorem dX2_share_41 : decode cX2_share 41 = .ok (.getfield 58, 3) := by decide +kernel
theorem dX2_share_44 : decode cX2_share 44 = .ok (.iload_n 1, 1) := by decide +kernel
theorem dX2_share_45 : decode cX2_share 45 = .ok (.iaload, 1) := by decide +kernel
theorem dX2_share_46 : decode cX2_share 46 = .ok (.i2l, 1) := by decide +kernel
theorem dX2_share_47 : decode cX2_share 47 = .ok (.lmul, 1) := by decide +kernel
theorem dX2_share_48 : decode cX2_share 48 = .ok (.aload_n 0, 1) := by decide +kernel
theorem dX2_share_49 : decode cX2_share 49 = .ok (.getfield 19, 3) := by decide +kernel
theorem dX2_share_52 : decode cX2_share 52 = .ok (.invokevirtual 149, 3) := by decide +kernel
theorem dX2_share_55 : decode cX2_share 55 = .ok (.i2l, 1) := by decide +kernel
theorem dX2_share_56 : decode cX2_share 56 = .ok (.iload_n 2, 1) := by decide +kernel
theorem dX2_share_57 : decode cX2_share 57 = .ok (.invokestatic 141, 3) := by decide +kernel
theorem dX2_share_60 : decode cX2_share 60 = .ok (.l2i, 1) := by decide +kernel
theorem dX2_share_61 : decode cX2_share 61 = .ok (.ireturn, 1) := by decide +kernel
set_option maxRecDepth 20000 in
theorem ggX2_potential_X0_allJobs : GoodIn wsX2_potential wsX0_allJobs := goodIn_r _ [5, 6, 20, 21, 22, 23, 24, 25, 26, 27, 28] (by decide +kernel) (by decide +kernel)
set_option maxRecDepth 20000 in
theorem gX2_potential_X0_allJobs_n145 : GoodIn wsX2_potential (wsX0_allJobs) := ggX2_potential_X0_allJobs
set_option maxRecDepth 20000 in
theorem ggX2_potential_X0_allSpeeds : GoodIn wsX2_potential wsX0_allSpeeds := goodIn_r _ [9, 10, 20, 21, 22, 23, 24, 25, 26, 27, 28] (by decide +kernel) (by decide +kernel)
set_option maxRecDepth 20000 in
theorem gX2_potential_X0_allSpeeds_n149 : GoodIn wsX2_potential (wsX0_allSpeeds) := ggX2_potential_X0_allSpeeds
theorem dX2_potential_0 : decode cX2_potential 0 = .ok (.aload_n 0, 1) := by decide +kernel
theorem dX2_potential_1 : decode cX2_potential 1 = .ok (.getfield 19, 3) := by decide +kernel
theorem dX2_potential_4 : decode cX2_potential 4 = .ok (.invokevirtual 145, 3) := by decide +kernel
theorem dX2_potential_7 : decode cX2_potential 7 = .ok (.lstore_n 1, 1) := by decide +kernel
theorem dX2_potential_8 : decode cX2_potential 8 = .ok (.aload_n 0, 1) := by decide +kernel
theorem dX2_potential_9 : decode cX2_potential 9 = .ok (.getfield 19, 3) := by decide +kernel
theorem dX2_potential_12 : decode cX2_potential 12 = .ok (.invokevirtual 149, 3) := by decide +kernel
theorem dX2_potential_15 : decode cX2_potential 15 = .ok (.i2l, 1) := by decide +kernel
theorem dX2_potential_16 : decode cX2_potential 16 = .ok (.lstore_n 3, 1) := by decide +kernel
theorem dX2_potential_17 : decode cX2_potential 17 = .ok (.lconst 0, 1) := by decide +kernel
theorem dX2_potential_18 : decode cX2_potential 18 = .ok (.lstore 5, 2) := by decide +kernel
theorem dX2_potential_20 : decode cX2_potential 20 = .ok (.iconst 0, 1) := by decide +kernel
theorem dX2_potential_21 : decode cX2_potential 21 = .ok (.istore 7, 2) := by decide +kernel
theorem dX2_potential_23 : decode cX2_potential 23 = .ok (.iload 7, 2) := by decide +kernel
theorem dX2_potential_25 : decode cX2_potential 25 = .ok (.bipush 8, 2) := by decide +kernel
theorem dX2_potential_27 : decode cX2_potential 27 = .ok (.if_icmp .ge 48, 3) := by decide +kernel
theorem dX2_potential_30 : decode cX2_potential 30 = .ok (.aload_n 0, 1) := by decide +kernel
theorem dX2_potential_31 : decode cX2_potential 31 = .ok (.getfield 19, 3) := by decide +kernel
theorem dX2_potential_34 : decode cX2_potential 34 = .ok (.getfield 54, 3) := by decide +kernel
theorem dX2_potential_37 : decode cX2_potential 37 = .ok (.iload 7, 2) := by decide +kernel
theorem dX2_potential_39 : decode cX2_potential 39 = .ok (.iaload, 1) := by decide +kernel
theorem dX2_potential_40 : decode cX2_potential 40 = .ok (.i2l, 1) := by decide +kernel
theorem dX2_potential_41 : decode cX2_potential 41 = .ok (.lload_n 3, 1) := by decide +kernel
theorem dX2_potential_42 : decode cX2_potential 42 = .ok (.lmul, 1) := by decide +kernel
theorem dX2_potential_43 : decode cX2_potential 43 = .ok (.lload_n 1, 1) := by decide +kernel
theorem dX2_potential_44 : decode cX2_potential 44 = .ok (.aload_n 0, 1) := by decide +kernel
theorem dX2_potential_45 : decode cX2_potential 45 = .ok (.getfield 19, 3) := by decide +kernel
theorem dX2_potential_48 : decode cX2_potential 48 = .ok (.getfield 58, 3) := by decide +kernel
theorem dX2_potential_51 : decode cX2_potential 51 = .ok (.iload 7, 2) := by decide +kernel
theorem dX2_potential_53 : decode cX2_potential 53 = .ok (.iaload, 1) := by decide +kernel
theorem dX2_potential_54 : decode cX2_potential 54 = .ok (.i2l, 1) := by decide +kernel
theorem dX2_potential_55 : decode cX2_potential 55 = .ok (.lmul, 1) := by decide +kernel
theorem dX2_potential_56 : decode cX2_potential 56 = .ok (.lsub, 1) := by decide +kernel
theorem dX2_potential_57 : decode cX2_potential 57 = .ok (.lstore 8, 2) := by decide +kernel
theorem dX2_potential_59 : decode cX2_potential 59 = .ok (.lload 5, 2) := by decide +kernel
theorem dX2_potential_61 : decode cX2_potential 61 = .ok (.lload 8, 2) := by decide +kernel
theorem dX2_potential_63 : decode cX2_potential 63 = .ok (.lload 8, 2) := by decide +kernel
theorem dX2_potential_65 : decode cX2_potential 65 = .ok (.lmul, 1) := by decide +kernel
theorem dX2_potential_66 : decode cX2_potential 66 = .ok (.ladd, 1) := by decide +kernel
theorem dX2_potential_67 : decode cX2_potential 67 = .ok (.lstore 5, 2) := by decide +kernel
theorem dX2_potential_69 : decode cX2_potential 69 = .ok (.iinc 7 1, 3) := by decide +kernel
theorem dX2_potential_72 : decode cX2_potential 72 = .ok (.goto (-49), 3) := by decide +kernel
theorem dX2_potential_75 : decode cX2_potential 75 = .ok (.lload 5, 2) := by decide +kernel
theorem dX2_potential_77 : decode cX2_potential 77 = .ok (.lreturn, 1) := by decide +kernel
set_option maxRecDepth 20000 in
theorem ggX2_ideal_X2_isNode : GoodIn wsX2_ideal wsX2_isNode := goodIn_r _ [9, 10, 11, 8, 12] (by decide +kernel) (by decide +kernel)
set_option maxRecDepth 20000 in
theorem gX2_ideal_X2_isNode : GoodIn wsX2_ideal (va_wsS RX2 46 yX2_isNode wsX2_isNode) := goodIn_app (goodIn_of _ (by decide +kernel)) ggX2_ideal_X2_isNode
set_option maxRecDepth 20000 in
theorem ggX2_ideal_X2_isWithin : GoodIn wsX2_ideal wsX2_isWithin := goodIn_r _ [12] (by decide +kernel) (by decide +kernel)
set_option maxRecDepth 20000 in
theorem gX2_ideal_X2_isWithin : GoodIn wsX2_ideal (va_wsS RX2 50 yX2_isWithin wsX2_isWithin) := goodIn_app (goodIn_of _ (by decide +kernel)) ggX2_ideal_X2_isWithin
set_option maxRecDepth 20000 in
theorem ggX2_ideal_X2_isPart : GoodIn wsX2_ideal wsX2_isPart := goodIn_r _ [15, 10, 11, 8, 12] (by decide +kernel) (by decide +kernel)
set_option maxRecDepth 20000 in
theorem gX2_ideal_X2_isPart : GoodIn wsX2_ideal (va_wsS RX2 128 yX2_isPart wsX2_isPart) := goodIn_app (goodIn_of _ (by decide +kernel)) ggX2_ideal_X2_isPart
set_option maxRecDepth 20000 in
theorem ggX2_ideal_X0_nodesBelowZero : GoodIn wsX2_ideal wsX0_nodesBelowZero := goodIn_r _ [19, 20, 66, 67, 68, 69, 70, 71, 72, 73, 74] (by decide +kernel) (by decide +kernel)
set_option maxRecDepth 20000 in
theorem gX2_ideal_X0_nodesBelowZero_n156 : GoodIn wsX2_ideal (wsX0_nodesBelowZero) := ggX2_ideal_X0_nodesBelowZero
set_option maxRecDepth 20000 in
theorem ggX2_ideal_X0_measure : GoodIn wsX2_ideal wsX0_measure := goodIn_r _ [23, 24, 25, 26, 27, 28, 29, 30, 17, 31, 32, 66, 67, 68, 69, 70, 71, 72, 73, 74] (by decide +kernel) (by decide +kernel)
set_option maxRecDepth 20000 in
theorem gX2_ideal_X0_measure_n161 : GoodIn wsX2_ideal (wsX0_measure) := ggX2_ideal_X0_measure
set_option maxRecDepth 20000 in
theorem ggX2_ideal_X2_flowUncut : GoodIn wsX2_ideal wsX2_flowUncut := goodIn_r _ [36, 37, 5, 3, 38, 39, 40, 41, 42, 17, 43, 44, 45, 46, 8, 47, 57, 58, 59, 60, 61, 62, 63, 64, 65, 66, 67, 68, 69, 70, 71, 72, 73, 74] (by decide +kernel) (by decide +kernel)
set_option maxRecDepth 20000 in
theorem gX2_ideal_X2_flowUncut : GoodIn wsX2_ideal (wsV RX2 164 RX2 yX2_flowUncut wsX2_flowUncut) := goodIn_app (goodIn_of _ (by decide +kernel)) ggX2_ideal_X2_flowUncut
set_option maxRecDepth 20000 in
theorem ggX2_ideal_X2_partOf : GoodIn wsX2_ideal wsX2_partOf := goodIn_r _ [50, 51, 52, 8, 53, 54, 55, 26, 56] (by decide +kernel) (by decide +kernel)
set_option maxRecDepth 20000 in
theorem gX2_ideal_X2_partOf : GoodIn wsX2_ideal (va_wsS RX2 141 yX2_partOf wsX2_partOf) := goodIn_app (goodIn_of _ (by decide +kernel)) ggX2_ideal_X2_partOf
theorem dX2_ideal_0 : decode cX2_ideal 0 = .ok (.iload_n 1, 1) := by decide +kernel
theorem dX2_ideal_1 : decode cX2_ideal 1 = .ok (.invokestatic 46, 3) := by decide +kernel
theorem dX2_ideal_4 : decode cX2_ideal 4 = .ok (.ifCond .ne 7, 3) := by decide +kernel
theorem dX2_ideal_7 : decode cX2_ideal 7 = .ok (.ldc2_w 152, 3) := by decide +kernel
theorem dX2_ideal_10 : decode cX2_ideal 10 = .ok (.lreturn, 1) := by decide +kernel
theorem dX2_ideal_11 : decode cX2_ideal 11 = .ok (.iload_n 2, 1) := by decide +kernel
theorem dX2_ideal_12 : decode cX2_ideal 12 = .ok (.iconst 0, 1) := by decide +kernel
theorem dX2_ideal_13 : decode cX2_ideal 13 = .ok (.bipush 8, 2) := by decide +kernel
theorem dX2_ideal_15 : decode cX2_ideal 15 = .ok (.invokestatic 50, 3) := by decide +kernel
theorem dX2_ideal_18 : decode cX2_ideal 18 = .ok (.ifCond .eq 10, 3) := by decide +kernel
theorem dX2_ideal_21 : decode cX2_ideal 21 = .ok (.iload_n 3, 1) := by decide +kernel
theorem dX2_ideal_22 : decode cX2_ideal 22 = .ok (.invokestatic 128, 3) := by decide +kernel
theorem dX2_ideal_25 : decode cX2_ideal 25 = .ok (.ifCond .ne 7, 3) := by decide +kernel
theorem dX2_ideal_28 : decode cX2_ideal 28 = .ok (.ldc2_w 154, 3) := by decide +kernel
theorem dX2_ideal_31 : decode cX2_ideal 31 = .ok (.lreturn, 1) := by decide +kernel
theorem dX2_ideal_32 : decode cX2_ideal 32 = .ok (.aload_n 0, 1) := by decide +kernel
theorem dX2_ideal_33 : decode cX2_ideal 33 = .ok (.getfield 19, 3) := by decide +kernel
theorem dX2_ideal_36 : decode cX2_ideal 36 = .ok (.invokevirtual 156, 3) := by decide +kernel
theorem dX2_ideal_39 : decode cX2_ideal 39 = .ok (.ifCond .le 7, 3) := by decide +kernel
theorem dX2_ideal_42 : decode cX2_ideal 42 = .ok (.ldc2_w 159, 3) := by decide +kernel
theorem dX2_ideal_45 : decode cX2_ideal 45 = .ok (.lreturn, 1) := by decide +kernel
theorem dX2_ideal_46 : decode cX2_ideal 46 = .ok (.iconst 0, 1) := by decide +kernel
theorem dX2_ideal_47 : decode cX2_ideal 47 = .ok (.istore 4, 2) := by decide +kernel
theorem dX2_ideal_49 : decode cX2_ideal 49 = .ok (.iload 4, 2) := by decide +kernel
theorem dX2_ideal_51 : decode cX2_ideal 51 = .ok (.bipush 8, 2) := by decide +kernel
theorem dX2_ideal_53 : decode cX2_ideal 53 = .ok (.if_icmp .ge 27, 3) := by decide +kernel
theorem dX2_ideal_56 : decode cX2_ideal 56 = .ok (.aload_n 0, 1) := by decide +kernel
theorem dX2_ideal_57 : decode cX2_ideal 57 = .ok (.getfield 39, 3) := by decide +kernel
theorem dX2_ideal_60 : decode cX2_ideal 60 = .ok (.iload 4, 2) := by decide +kernel
theorem dX2_ideal_62 : decode cX2_ideal 62 = .ok (.aload_n 0, 1) := by decide +kernel
theorem dX2_ideal_63 : decode cX2_ideal 63 = .ok (.getfield 19, 3) := by decide +kernel
theorem dX2_ideal_66 : decode cX2_ideal 66 = .ok (.getfield 54, 3) := by decide +kernel
theorem dX2_ideal_69 : decode cX2_ideal 69 = .ok (.iload 4, 2) := by decide +kernel
theorem dX2_ideal_71 : decode cX2_ideal 71 = .ok (.iaload, 1) := by decide +kernel
theorem dX2_ideal_72 : decode cX2_ideal 72 = .ok (.i2l, 1) := by decide +kernel
theorem dX2_ideal_73 : decode cX2_ideal 73 = .ok (.lastore, 1) := by decide +kernel
theorem dX2_ideal_74 : decode cX2_ideal 74 = .ok (.iinc 4 1, 3) := by decide +kernel
theorem dX2_ideal_77 : decode cX2_ideal 77 = .ok (.goto (-28), 3) := by decide +kernel
theorem dX2_ideal_80 : decode cX2_ideal 80 = .ok (.aload_n 0, 1) := by decide +kernel
theorem dX2_ideal_81 : decode cX2_ideal 81 = .ok (.getfield 19, 3) := by decide +kernel
theorem dX2_ideal_84 : decode cX2_ideal 84 = .ok (.invokevirtual 161, 3) := by decide +kernel
theorem dX2_ideal_87 : decode cX2_ideal 87 = .ok (.istore 4, 2) := by decide +kernel
theorem dX2_ideal_89 : decode cX2_ideal 89 = .ok (.lconst 1, 1) := by decide +kernel
theorem dX2_ideal_90 : decode cX2_ideal 90 = .ok (.lstore 5, 2) := by decide +kernel
theorem dX2_ideal_92 : decode cX2_ideal 92 = .ok (.iconst 0, 1) := by decide +kernel
theorem dX2_ideal_93 : decode cX2_ideal 93 = .ok (.istore 7, 2) := by decide +kernel
theorem dX2_ideal_95 : decode cX2_ideal 95 = .ok (.iload 7, 2) := by decide +kernel
theorem dX2_ideal_97 : decode cX2_ideal 97 = .ok (.iload_n 2, 1) := by decide +kernel
theorem dX2_ideal_98 : decode cX2_ideal 98 = .ok (.if_icmp .ge 23, 3) := by decide +kernel
theorem dX2_ideal_101 : decode cX2_ideal 101 = .ok (.aload_n 0, 1) := by decide +kernel
theorem dX2_ideal_102 : decode cX2_ideal 102 = .ok (.iload 4, 2) := by decide +kernel
theorem dX2_ideal_104 : decode cX2_ideal 104 = .ok (.invokevirtual 164, 3) := by decide +kernel
theorem dX2_ideal_107 : decode cX2_ideal 107 = .ok (.lload 5, 2) := by decide +kernel
theorem dX2_ideal_109 : decode cX2_ideal 109 = .ok (.iload 4, 2) := by decide +kernel
theorem dX2_ideal_111 : decode cX2_ideal 111 = .ok (.i2l, 1) := by decide +kernel
theorem dX2_ideal_112 : decode cX2_ideal 112 = .ok (.lmul, 1) := by decide +kernel
theorem dX2_ideal_113 : decode cX2_ideal 113 = .ok (.lstore 5, 2) := by decide +kernel
theorem dX2_ideal_115 : decode cX2_ideal 115 = .ok (.iinc 7 1, 3) := by decide +kernel
theorem dX2_ideal_118 : decode cX2_ideal 118 = .ok (.goto (-23), 3) := by decide +kernel
theorem dX2_ideal_121 : decode cX2_ideal 121 = .ok (.aload_n 0, 1) := by decide +kernel
theorem dX2_ideal_122 : decode cX2_ideal 122 = .ok (.getfield 39, 3) := by decide +kernel
theorem dX2_ideal_125 : decode cX2_ideal 125 = .ok (.iload_n 1, 1) := by decide +kernel
theorem dX2_ideal_126 : decode cX2_ideal 126 = .ok (.laload, 1) := by decide +kernel
theorem dX2_ideal_127 : decode cX2_ideal 127 = .ok (.lload 5, 2) := by decide +kernel
theorem dX2_ideal_129 : decode cX2_ideal 129 = .ok (.iload_n 3, 1) := by decide +kernel
theorem dX2_ideal_130 : decode cX2_ideal 130 = .ok (.invokestatic 141, 3) := by decide +kernel
theorem dX2_ideal_133 : decode cX2_ideal 133 = .ok (.lreturn, 1) := by decide +kernel
set_option maxRecDepth 20000 in
theorem ggX2_flowUncut_X0_joins : GoodIn wsX2_flowUncut wsX0_joins := goodIn_r _ [11, 12, 13, 14, 15, 25, 26, 27, 28, 29, 30, 31, 32, 33] (by decide +kernel) (by decide +kernel)
set_option maxRecDepth 20000 in
theorem gX2_flowUncut_X0_joins_n68 : GoodIn wsX2_flowUncut (wsX0_joins) := ggX2_flowUncut_X0_joins
theorem dX2_flowUncut_0 : decode cX2_flowUncut 0 = .ok (.iconst 0, 1) := by decide +kernel
theorem dX2_flowUncut_1 : decode cX2_flowUncut 1 = .ok (.istore_n 2, 1) := by decide +kernel
theorem dX2_flowUncut_2 : decode cX2_flowUncut 2 = .ok (.iload_n 2, 1) := by decide +kernel
theorem dX2_flowUncut_3 : decode cX2_flowUncut 3 = .ok (.bipush 8, 2) := by decide +kernel
theorem dX2_flowUncut_5 : decode cX2_flowUncut 5 = .ok (.if_icmp .ge 24, 3) := by decide +kernel
theorem dX2_flowUncut_8 : decode cX2_flowUncut 8 = .ok (.aload_n 0, 1) := by decide +kernel
theorem dX2_flowUncut_9 : decode cX2_flowUncut 9 = .ok (.getfield 43, 3) := by decide +kernel
theorem dX2_flowUncut_12 : decode cX2_flowUncut 12 = .ok (.iload_n 2, 1) := by decide +kernel
theorem dX2_flowUncut_13 : decode cX2_flowUncut 13 = .ok (.aload_n 0, 1) := by decide +kernel
theorem dX2_flowUncut_14 : decode cX2_flowUncut 14 = .ok (.getfield 39, 3) := by decide +kernel
theorem dX2_flowUncut_17 : decode cX2_flowUncut 17 = .ok (.iload_n 2, 1) := by decide +kernel
theorem dX2_flowUncut_18 : decode cX2_flowUncut 18 = .ok (.laload, 1) := by decide +kernel
theorem dX2_flowUncut_19 : decode cX2_flowUncut 19 = .ok (.iload_n 1, 1) := by decide +kernel
theorem dX2_flowUncut_20 : decode cX2_flowUncut 20 = .ok (.i2l, 1) := by decide +kernel
theorem dX2_flowUncut_21 : decode cX2_flowUncut 21 = .ok (.lmul, 1) := by decide +kernel
theorem dX2_flowUncut_22 : decode cX2_flowUncut 22 = .ok (.lastore, 1) := by decide +kernel
theorem dX2_flowUncut_23 : decode cX2_flowUncut 23 = .ok (.iinc 2 1, 3) := by decide +kernel
theorem dX2_flowUncut_26 : decode cX2_flowUncut 26 = .ok (.goto (-24), 3) := by decide +kernel
theorem dX2_flowUncut_29 : decode cX2_flowUncut 29 = .ok (.iconst 0, 1) := by decide +kernel
theorem dX2_flowUncut_30 : decode cX2_flowUncut 30 = .ok (.istore_n 2, 1) := by decide +kernel
theorem dX2_flowUncut_31 : decode cX2_flowUncut 31 = .ok (.iload_n 2, 1) := by decide +kernel
theorem dX2_flowUncut_32 : decode cX2_flowUncut 32 = .ok (.bipush 8, 2) := by decide +kernel
theorem dX2_flowUncut_34 : decode cX2_flowUncut 34 = .ok (.if_icmp .ge 96, 3) := by decide +kernel
theorem dX2_flowUncut_37 : decode cX2_flowUncut 37 = .ok (.iload_n 2, 1) := by decide +kernel
theorem dX2_flowUncut_38 : decode cX2_flowUncut 38 = .ok (.iconst 1, 1) := by decide +kernel
theorem dX2_flowUncut_39 : decode cX2_flowUncut 39 = .ok (.iadd, 1) := by decide +kernel
theorem dX2_flowUncut_40 : decode cX2_flowUncut 40 = .ok (.istore_n 3, 1) := by decide +kernel
theorem dX2_flowUncut_41 : decode cX2_flowUncut 41 = .ok (.iload_n 3, 1) := by decide +kernel
theorem dX2_flowUncut_42 : decode cX2_flowUncut 42 = .ok (.bipush 8, 2) := by decide +kernel
theorem dX2_flowUncut_44 : decode cX2_flowUncut 44 = .ok (.if_icmp .ge 80, 3) := by decide +kernel
theorem dX2_flowUncut_47 : decode cX2_flowUncut 47 = .ok (.aload_n 0, 1) := by decide +kernel
theorem dX2_flowUncut_48 : decode cX2_flowUncut 48 = .ok (.getfield 19, 3) := by decide +kernel
theorem dX2_flowUncut_51 : decode cX2_flowUncut 51 = .ok (.iload_n 2, 1) := by decide +kernel
theorem dX2_flowUncut_52 : decode cX2_flowUncut 52 = .ok (.iload_n 3, 1) := by decide +kernel
theorem dX2_flowUncut_53 : decode cX2_flowUncut 53 = .ok (.invokevirtual 68, 3) := by decide +kernel
theorem dX2_flowUncut_56 : decode cX2_flowUncut 56 = .ok (.ifCond .eq 62, 3) := by decide +kernel
theorem dX2_flowUncut_59 : decode cX2_flowUncut 59 = .ok (.aload_n 0, 1) := by decide +kernel
theorem dX2_flowUncut_60 : decode cX2_flowUncut 60 = .ok (.getfield 39, 3) := by decide +kernel
theorem dX2_flowUncut_63 : decode cX2_flowUncut 63 = .ok (.iload_n 2, 1) := by decide +kernel
theorem dX2_flowUncut_64 : decode cX2_flowUncut 64 = .ok (.laload, 1) := by decide +kernel
theorem dX2_flowUncut_65 : decode cX2_flowUncut 65 = .ok (.aload_n 0, 1) := by decide +kernel
theorem dX2_flowUncut_66 : decode cX2_flowUncut 66 = .ok (.getfield 19, 3) := by decide +kernel
theorem dX2_flowUncut_69 : decode cX2_flowUncut 69 = .ok (.getfield 58, 3) := by decide +kernel
theorem dX2_flowUncut_72 : decode cX2_flowUncut 72 = .ok (.iload_n 3, 1) := by decide +kernel
theorem dX2_flowUncut_73 : decode cX2_flowUncut 73 = .ok (.iaload, 1) := by decide +kernel
theorem dX2_flowUncut_74 : decode cX2_flowUncut 74 = .ok (.i2l, 1) := by decide +kernel
theorem dX2_flowUncut_75 : decode cX2_flowUncut 75 = .ok (.lmul, 1) := by decide +kernel
theorem dX2_flowUncut_76 : decode cX2_flowUncut 76 = .ok (.aload_n 0, 1) := by decide +kernel
theorem dX2_flowUncut_77 : decode cX2_flowUncut 77 = .ok (.getfield 39, 3) := by decide +kernel
theorem dX2_flowUncut_80 : decode cX2_flowUncut 80 = .ok (.iload_n 3, 1) := by decide +kernel
theorem dX2_flowUncut_81 : decode cX2_flowUncut 81 = .ok (.laload, 1) := by decide +kernel
theorem dX2_flowUncut_82 : decode cX2_flowUncut 82 = .ok (.aload_n 0, 1) := by decide +kernel
theorem dX2_flowUncut_83 : decode cX2_flowUncut 83 = .ok (.getfield 19, 3) := by decide +kernel
theorem dX2_flowUncut_86 : decode cX2_flowUncut 86 = .ok (.getfield 58, 3) := by decide +kernel
theorem dX2_flowUncut_89 : decode cX2_flowUncut 89 = .ok (.iload_n 2, 1) := by decide +kernel
theorem dX2_flowUncut_90 : decode cX2_flowUncut 90 = .ok (.iaload, 1) := by decide +kernel
theorem dX2_flowUncut_91 : decode cX2_flowUncut 91 = .ok (.i2l, 1) := by decide +kernel
theorem dX2_flowUncut_92 : decode cX2_flowUncut 92 = .ok (.lmul, 1) := by decide +kernel
theorem dX2_flowUncut_93 : decode cX2_flowUncut 93 = .ok (.lsub, 1) := by decide +kernel
theorem dX2_flowUncut_94 : decode cX2_flowUncut 94 = .ok (.lstore 4, 2) := by decide +kernel
theorem dX2_flowUncut_96 : decode cX2_flowUncut 96 = .ok (.aload_n 0, 1) := by decide +kernel
theorem dX2_flowUncut_97 : decode cX2_flowUncut 97 = .ok (.getfield 43, 3) := by decide +kernel
theorem dX2_flowUncut_100 : decode cX2_flowUncut 100 = .ok (.iload_n 2, 1) := by decide +kernel
theorem dX2_flowUncut_101 : decode cX2_flowUncut 101 = .ok (.dup2, 1) := by decide +kernel
theorem dX2_flowUncut_102 : decode cX2_flowUncut 102 = .ok (.laload, 1) := by decide +kernel
theorem dX2_flowUncut_103 : decode cX2_flowUncut 103 = .ok (.lload 4, 2) := by decide +kernel
theorem dX2_flowUncut_105 : decode cX2_flowUncut 105 = .ok (.lsub, 1) := by decide +kernel
theorem dX2_flowUncut_106 : decode cX2_flowUncut 106 = .ok (.lastore, 1) := by decide +kernel
theorem dX2_flowUncut_107 : decode cX2_flowUncut 107 = .ok (.aload_n 0, 1) := by decide +kernel
theorem dX2_flowUncut_108 : decode cX2_flowUncut 108 = .ok (.getfield 43, 3) := by decide +kernel
theorem dX2_flowUncut_111 : decode cX2_flowUncut 111 = .ok (.iload_n 3, 1) := by decide +kernel
theorem dX2_flowUncut_112 : decode cX2_flowUncut 112 = .ok (.dup2, 1) := by decide +kernel
theorem dX2_flowUncut_113 : decode cX2_flowUncut 113 = .ok (.laload, 1) := by decide +kernel
theorem dX2_flowUncut_114 : decode cX2_flowUncut 114 = .ok (.lload 4, 2) := by decide +kernel
theorem dX2_flowUncut_116 : decode cX2_flowUncut 116 = .ok (.ladd, 1) := by decide +kernel
theorem dX2_flowUncut_117 : decode cX2_flowUncut 117 = .ok (.lastore, 1) := by decide +kernel
theorem dX2_flowUncut_118 : decode cX2_flowUncut 118 = .ok (.iinc 3 1, 3) := by decide +kernel
theorem dX2_flowUncut_121 : decode cX2_flowUncut 121 = .ok (.goto (-80), 3) := by decide +kernel
theorem dX2_flowUncut_124 : decode cX2_flowUncut 124 = .ok (.iinc 2 1, 3) := by decide +kernel
theorem dX2_flowUncut_127 : decode cX2_flowUncut 127 = .ok (.goto (-96), 3) := by decide +kernel
theorem dX2_flowUncut_130 : decode cX2_flowUncut 130 = .ok (.aload_n 0, 1) := by decide +kernel
theorem dX2_flowUncut_131 : decode cX2_flowUncut 131 = .ok (.getfield 43, 3) := by decide +kernel
theorem dX2_flowUncut_134 : decode cX2_flowUncut 134 = .ok (.iconst 0, 1) := by decide +kernel
theorem dX2_flowUncut_135 : decode cX2_flowUncut 135 = .ok (.aload_n 0, 1) := by decide +kernel
theorem dX2_flowUncut_136 : decode cX2_flowUncut 136 = .ok (.getfield 39, 3) := by decide +kernel
theorem dX2_flowUncut_139 : decode cX2_flowUncut 139 = .ok (.iconst 0, 1) := by decide +kernel
theorem dX2_flowUncut_140 : decode cX2_flowUncut 140 = .ok (.bipush 8, 2) := by decide +kernel
theorem dX2_flowUncut_142 : decode cX2_flowUncut 142 = .ok (.invokestatic 167, 3) := by decide +kernel
theorem dX2_flowUncut_145 : decode cX2_flowUncut 145 = .ok (.return_, 1) := by decide +kernel
set_option maxRecDepth 20000 in
theorem ggX2_until_X2_isRule : GoodIn wsX2_until wsX2_isRule := goodIn_r _ [6, 7, 8, 5, 9] (by decide +kernel) (by decide +kernel)
set_option maxRecDepth 20000 in
theorem gX2_until_X2_isRule : GoodIn wsX2_until (va_wsS RX2 116 yX2_isRule wsX2_isRule) := goodIn_app (goodIn_of _ (by decide +kernel)) ggX2_until_X2_isRule
set_option maxRecDepth 20000 in
theorem ggX2_until_X2_isWithin : GoodIn wsX2_until wsX2_isWithin := goodIn_r _ [9] (by decide +kernel) (by decide +kernel)
set_option maxRecDepth 20000 in
theorem gX2_until_X2_isWithin : GoodIn wsX2_until (va_wsS RX2 50 yX2_isWithin wsX2_isWithin) := goodIn_app (goodIn_of _ (by decide +kernel)) ggX2_until_X2_isWithin
set_option maxRecDepth 20000 in
theorem ggX2_until_X0_become : GoodIn wsX2_until wsX0_become := goodIn_r _ [13, 14, 15, 16, 17, 18, 19, 20, 21, 22, 23, 24, 25, 115, 116, 117, 118, 119, 120, 121, 122, 123] (by decide +kernel) (by decide +kernel)
set_option maxRecDepth 20000 in
theorem gX2_until_X0_become_n173 : GoodIn wsX2_until (wsX0_become) := ggX2_until_X0_become
set_option maxRecDepth 20000 in
theorem ggX2_until_X0_isUnevenAtMost : GoodIn wsX2_until wsX0_isUnevenAtMost := goodIn_r _ [28, 14, 29, 30, 31, 11, 32, 33, 34, 35, 36, 19, 37, 38, 39, 40, 115, 116, 117, 118, 119, 120, 121, 122, 123] (by decide +kernel) (by decide +kernel)
set_option maxRecDepth 20000 in
theorem gX2_until_X0_isUnevenAtMost_n177 : GoodIn wsX2_until (wsX0_isUnevenAtMost) := ggX2_until_X0_isUnevenAtMost
set_option maxRecDepth 20000 in
theorem ggX2_until_X0_goOn : GoodIn wsX2_until wsX0_goOn := goodIn_r _ [43, 25, 44, 45, 46, 11, 47, 48, 49, 50, 51, 52, 53, 54, 55, 56, 57, 58, 59, 21, 60, 61, 62, 63, 22, 64, 5, 65, 66, 67, 68, 69, 23, 19, 14, 70, 71, 72, 73, 74, 75, 76, 77, 78, 79, 80, 81, 82, 83, 84, 85, 86, 87, 88, 89, 90, 91, 92, 93, 94, 95, 96, 97, 98, 99, 100, 101, 20, 102, 103, 104, 105, 115, 116, 117, 118, 119, 120, 121, 122, 123] (by decide +kernel) (by decide +kernel)
set_option maxRecDepth 20000 in
theorem gX2_until_X0_goOn_n119 : GoodIn wsX2_until (wsX0_goOn) := ggX2_until_X0_goOn
theorem dX2_until_0 : decode cX2_until 0 = .ok (.iload_n 1, 1) := by decide +kernel
theorem dX2_until_1 : decode cX2_until 1 = .ok (.invokestatic 116, 3) := by decide +kernel
theorem dX2_until_4 : decode cX2_until 4 = .ok (.ifCond .eq 13, 3) := by decide +kernel
theorem dX2_until_7 : decode cX2_until 7 = .ok (.iload_n 2, 1) := by decide +kernel
theorem dX2_until_8 : decode cX2_until 8 = .ok (.iconst 0, 1) := by decide +kernel
theorem dX2_until_9 : decode cX2_until 9 = .ok (.bipush 99, 2) := by decide +kernel
theorem dX2_until_11 : decode cX2_until 11 = .ok (.invokestatic 50, 3) := by decide +kernel
theorem dX2_until_14 : decode cX2_until 14 = .ok (.ifCond .ne 6, 3) := by decide +kernel
theorem dX2_until_17 : decode cX2_until 17 = .ok (.bipush (-2), 2) := by decide +kernel
theorem dX2_until_19 : decode cX2_until 19 = .ok (.ireturn, 1) := by decide +kernel
theorem dX2_until_20 : decode cX2_until 20 = .ok (.aload_n 0, 1) := by decide +kernel
theorem dX2_until_21 : decode cX2_until 21 = .ok (.getfield 33, 3) := by decide +kernel
theorem dX2_until_24 : decode cX2_until 24 = .ok (.aload_n 0, 1) := by decide +kernel
theorem dX2_until_25 : decode cX2_until 25 = .ok (.getfield 19, 3) := by decide +kernel
theorem dX2_until_28 : decode cX2_until 28 = .ok (.invokevirtual 173, 3) := by decide +kernel
theorem dX2_until_31 : decode cX2_until 31 = .ok (.iconst 0, 1) := by decide +kernel
theorem dX2_until_32 : decode cX2_until 32 = .ok (.istore_n 3, 1) := by decide +kernel
theorem dX2_until_33 : decode cX2_until 33 = .ok (.iload_n 3, 1) := by decide +kernel
theorem dX2_until_34 : decode cX2_until 34 = .ok (.sipush 200, 3) := by decide +kernel
theorem dX2_until_37 : decode cX2_until 37 = .ok (.if_icmp .gt 32, 3) := by decide +kernel
theorem dX2_until_40 : decode cX2_until 40 = .ok (.aload_n 0, 1) := by decide +kernel
theorem dX2_until_41 : decode cX2_until 41 = .ok (.getfield 33, 3) := by decide +kernel
theorem dX2_until_44 : decode cX2_until 44 = .ok (.iload_n 2, 1) := by decide +kernel
theorem dX2_until_45 : decode cX2_until 45 = .ok (.invokevirtual 177, 3) := by decide +kernel
theorem dX2_until_48 : decode cX2_until 48 = .ok (.ifCond .eq 5, 3) := by decide +kernel
theorem dX2_until_51 : decode cX2_until 51 = .ok (.iload_n 3, 1) := by decide +kernel
theorem dX2_until_52 : decode cX2_until 52 = .ok (.ireturn, 1) := by decide +kernel
theorem dX2_until_53 : decode cX2_until 53 = .ok (.aload_n 0, 1) := by decide +kernel
theorem dX2_until_54 : decode cX2_until 54 = .ok (.getfield 33, 3) := by decide +kernel
theorem dX2_until_57 : decode cX2_until 57 = .ok (.iload_n 1, 1) := by decide +kernel
theorem dX2_until_58 : decode cX2_until 58 = .ok (.iconst 1, 1) := by decide +kernel
theorem dX2_until_59 : decode cX2_until 59 = .ok (.invokevirtual 119, 3) := by decide +kernel
theorem dX2_until_62 : decode cX2_until 62 = .ok (.pop, 1) := by decide +kernel
theorem dX2_until_63 : decode cX2_until 63 = .ok (.iinc 3 1, 3) := by decide +kernel
theorem dX2_until_66 : decode cX2_until 66 = .ok (.goto (-33), 3) := by decide +kernel
theorem dX2_until_69 : decode cX2_until 69 = .ok (.bipush (-6), 2) := by decide +kernel
theorem dX2_until_71 : decode cX2_until 71 = .ok (.ireturn, 1) := by decide +kernel
set_option maxRecDepth 20000 in
theorem ggX2_ring_X2_isRule : GoodIn wsX2_ring wsX2_isRule := goodIn_r _ [4, 5, 6, 3, 7] (by decide +kernel) (by decide +kernel)
set_option maxRecDepth 20000 in
theorem gX2_ring_X2_isRule : GoodIn wsX2_ring (va_wsS RX2 116 yX2_isRule wsX2_isRule) := goodIn_app (goodIn_of _ (by decide +kernel)) ggX2_ring_X2_isRule
set_option maxRecDepth 20000 in
theorem ggX2_ring_X2_isWithin : GoodIn wsX2_ring wsX2_isWithin := goodIn_r _ [7] (by decide +kernel) (by decide +kernel)
set_option maxRecDepth 20000 in
theorem gX2_ring_X2_isWithin : GoodIn wsX2_ring (va_wsS RX2 50 yX2_isWithin wsX2_isWithin) := goodIn_app (goodIn_of _ (by decide +kernel)) ggX2_ring_X2_isWithin
set_option maxRecDepth 20000 in
theorem ggX2_ring_X2_ringLength : GoodIn wsX2_ring wsX2_ringLength := goodIn_r _ [11, 12, 13, 14, 15, 16, 17, 18, 19, 20, 21, 22, 23, 24, 25, 26, 27, 28, 29, 30, 31, 32, 33, 34, 35, 36, 37, 38, 39, 40, 41, 42, 43, 44, 45, 46, 47, 48, 49, 50, 51, 52, 53, 54, 3, 55, 56, 57, 58, 59, 60, 61, 62, 63, 64, 65, 66, 67, 68, 69, 70, 71, 72, 73, 74, 75, 76, 77, 78, 79, 80, 81, 82, 83, 84, 85, 86, 87, 88, 89, 90, 91, 92, 93, 94, 95, 96, 97, 98, 103, 104, 105, 106, 107, 108, 109, 110, 111, 112, 113, 114, 115, 116, 117, 118, 119, 120] (by decide +kernel) (by decide +kernel)
set_option maxRecDepth 20000 in
theorem gX2_ring_X2_ringLength : GoodIn wsX2_ring (wsV RX2 180 RX2 yX2_ringLength wsX2_ringLength) := goodIn_app (goodIn_of _ (by decide +kernel)) ggX2_ring_X2_ringLength
set_option maxRecDepth 20000 in
theorem ggX2_ring_X2_ringStart : GoodIn wsX2_ring wsX2_ringStart := goodIn_r _ [102, 14, 13, 12, 15, 16, 17, 18, 19, 20, 21, 22, 23, 24, 25, 26, 27, 28, 29, 30, 31, 32, 33, 34, 35, 36, 37, 38, 39, 40, 41, 42, 43, 44, 45, 46, 47, 48, 49, 50, 51, 52, 53, 54, 3, 55, 56, 57, 58, 59, 60, 61, 62, 63, 64, 65, 66, 67, 68, 69, 70, 71, 72, 73, 74, 75, 76, 77, 78, 79, 80, 81, 82, 83, 84, 85, 86, 87, 88, 89, 90, 91, 92, 93, 94, 95, 96, 97, 98, 103, 104, 105, 106, 107, 108, 109, 110, 111, 112, 113, 114, 115, 116, 117, 118, 119, 120] (by decide +kernel) (by decide +kernel)
set_option maxRecDepth 20000 in
theorem gX2_ring_X2_ringStart : GoodIn wsX2_ring (wsV RX2 183 RX2 yX2_ringStart wsX2_ringStart) := goodIn_app (goodIn_of _ (by decide +kernel)) ggX2_ring_X2_ringStart
theorem dX2_ring_0 : decode cX2_ring 0 = .ok (.iload_n 1, 1) := by decide +kernel
theorem dX2_ring_1 : decode cX2_ring 1 = .ok (.invokestatic 116, 3) := by decide +kernel
theorem dX2_ring_4 : decode cX2_ring 4 = .ok (.ifCond .eq 12, 3) := by decide +kernel
theorem dX2_ring_7 : decode cX2_ring 7 = .ok (.iload_n 2, 1) := by decide +kernel
theorem dX2_ring_8 : decode cX2_ring 8 = .ok (.iconst 0, 1) := by decide +kernel
theorem dX2_ring_9 : decode cX2_ring 9 = .ok (.iconst 1, 1) := by decide +kernel
theorem dX2_ring_10 : decode cX2_ring 10 = .ok (.invokestatic 50, 3) := by decide +kernel
theorem dX2_ring_13 : decode cX2_ring 13 = .ok (.ifCond .ne 6, 3) := by decide +kernel
theorem dX2_ring_16 : decode cX2_ring 16 = .ok (.bipush (-2), 2) := by decide +kernel
theorem dX2_ring_18 : decode cX2_ring 18 = .ok (.ireturn, 1) := by decide +kernel
theorem dX2_ring_19 : decode cX2_ring 19 = .ok (.aload_n 0, 1) := by decide +kernel
theorem dX2_ring_20 : decode cX2_ring 20 = .ok (.iload_n 1, 1) := by decide +kernel
theorem dX2_ring_21 : decode cX2_ring 21 = .ok (.invokevirtual 180, 3) := by decide +kernel
theorem dX2_ring_24 : decode cX2_ring 24 = .ok (.istore_n 3, 1) := by decide +kernel
theorem dX2_ring_25 : decode cX2_ring 25 = .ok (.iload_n 3, 1) := by decide +kernel
theorem dX2_ring_26 : decode cX2_ring 26 = .ok (.bipush (-6), 2) := by decide +kernel
theorem dX2_ring_28 : decode cX2_ring 28 = .ok (.if_icmp .ne 6, 3) := by decide +kernel
theorem dX2_ring_31 : decode cX2_ring 31 = .ok (.bipush (-6), 2) := by decide +kernel
theorem dX2_ring_33 : decode cX2_ring 33 = .ok (.ireturn, 1) := by decide +kernel
theorem dX2_ring_34 : decode cX2_ring 34 = .ok (.aload_n 0, 1) := by decide +kernel
theorem dX2_ring_35 : decode cX2_ring 35 = .ok (.iload_n 1, 1) := by decide +kernel
theorem dX2_ring_36 : decode cX2_ring 36 = .ok (.iload_n 3, 1) := by decide +kernel
theorem dX2_ring_37 : decode cX2_ring 37 = .ok (.invokevirtual 183, 3) := by decide +kernel
theorem dX2_ring_40 : decode cX2_ring 40 = .ok (.istore 4, 2) := by decide +kernel
theorem dX2_ring_42 : decode cX2_ring 42 = .ok (.iload 4, 2) := by decide +kernel
theorem dX2_ring_44 : decode cX2_ring 44 = .ok (.bipush (-6), 2) := by decide +kernel
theorem dX2_ring_46 : decode cX2_ring 46 = .ok (.if_icmp .eq 7, 3) := by decide +kernel
theorem dX2_ring_49 : decode cX2_ring 49 = .ok (.iload_n 2, 1) := by decide +kernel
theorem dX2_ring_50 : decode cX2_ring 50 = .ok (.ifCond .ne 6, 3) := by decide +kernel
theorem dX2_ring_53 : decode cX2_ring 53 = .ok (.iload 4, 2) := by decide +kernel
theorem dX2_ring_55 : decode cX2_ring 55 = .ok (.ireturn, 1) := by decide +kernel
theorem dX2_ring_56 : decode cX2_ring 56 = .ok (.iload_n 3, 1) := by decide +kernel
theorem dX2_ring_57 : decode cX2_ring 57 = .ok (.ireturn, 1) := by decide +kernel
set_option maxRecDepth 20000 in
theorem ggX2_ringLength_X0_become : GoodIn wsX2_ringLength wsX0_become := goodIn_r _ [7, 8, 9, 10, 11, 12, 13, 14, 15, 16, 17, 18, 19, 98, 99, 100, 101, 102, 103, 104, 105, 106] (by decide +kernel) (by decide +kernel)
set_option maxRecDepth 20000 in
theorem gX2_ringLength_X0_become_n173 : GoodIn wsX2_ringLength (wsX0_become) := ggX2_ringLength_X0_become
set_option maxRecDepth 20000 in
theorem ggX2_ringLength_X0_goOn : GoodIn wsX2_ringLength wsX0_goOn := goodIn_r _ [22, 19, 23, 24, 25, 5, 26, 27, 28, 29, 30, 31, 32, 33, 34, 35, 36, 37, 38, 15, 39, 40, 41, 42, 16, 43, 44, 45, 46, 47, 48, 49, 17, 13, 8, 50, 51, 52, 53, 54, 55, 56, 57, 58, 59, 60, 61, 62, 63, 64, 65, 66, 67, 68, 69, 70, 71, 72, 73, 74, 75, 76, 77, 78, 79, 80, 81, 14, 82, 83, 84, 85, 98, 99, 100, 101, 102, 103, 104, 105, 106] (by decide +kernel) (by decide +kernel)
set_option maxRecDepth 20000 in
theorem gX2_ringLength_X0_goOn_n119 : GoodIn wsX2_ringLength (wsX0_goOn) := ggX2_ringLength_X0_goOn
set_option maxRecDepth 20000 in
theorem ggX2_ringLength_X0_isAlike : GoodIn wsX2_ringLength wsX0_isAlike := goodIn_r _ [88, 13, 17, 19, 82, 83, 84, 5, 85, 14, 35, 36, 37, 38, 15, 62, 63, 64, 65, 16, 31, 32, 33, 34, 98, 99, 100, 101, 102, 103, 104, 105, 106] (by decide +kernel) (by decide +kernel)
set_option maxRecDepth 20000 in
theorem gX2_ringLength_X0_isAlike_n186 : GoodIn wsX2_ringLength (wsX0_isAlike) := ggX2_ringLength_X0_isAlike
theorem dX2_ringLength_0 : decode cX2_ringLength 0 = .ok (.aload_n 0, 1) := by decide +kernel
theorem dX2_ringLength_1 : decode cX2_ringLength 1 = .ok (.getfield 33, 3) := by decide +kernel
theorem dX2_ringLength_4 : decode cX2_ringLength 4 = .ok (.aload_n 0, 1) := by decide +kernel
theorem dX2_ringLength_5 : decode cX2_ringLength 5 = .ok (.getfield 19, 3) := by decide +kernel
theorem dX2_ringLength_8 : decode cX2_ringLength 8 = .ok (.invokevirtual 173, 3) := by decide +kernel
theorem dX2_ringLength_11 : decode cX2_ringLength 11 = .ok (.aload_n 0, 1) := by decide +kernel
theorem dX2_ringLength_12 : decode cX2_ringLength 12 = .ok (.getfield 33, 3) := by decide +kernel
theorem dX2_ringLength_15 : decode cX2_ringLength 15 = .ok (.iload_n 1, 1) := by decide +kernel
theorem dX2_ringLength_16 : decode cX2_ringLength 16 = .ok (.sipush 300, 3) := by decide +kernel
theorem dX2_ringLength_19 : decode cX2_ringLength 19 = .ok (.invokevirtual 119, 3) := by decide +kernel
theorem dX2_ringLength_22 : decode cX2_ringLength 22 = .ok (.pop, 1) := by decide +kernel
theorem dX2_ringLength_23 : decode cX2_ringLength 23 = .ok (.aload_n 0, 1) := by decide +kernel
theorem dX2_ringLength_24 : decode cX2_ringLength 24 = .ok (.getfield 36, 3) := by decide +kernel
theorem dX2_ringLength_27 : decode cX2_ringLength 27 = .ok (.aload_n 0, 1) := by decide +kernel
theorem dX2_ringLength_28 : decode cX2_ringLength 28 = .ok (.getfield 33, 3) := by decide +kernel
theorem dX2_ringLength_31 : decode cX2_ringLength 31 = .ok (.invokevirtual 173, 3) := by decide +kernel
theorem dX2_ringLength_34 : decode cX2_ringLength 34 = .ok (.iconst 1, 1) := by decide +kernel
theorem dX2_ringLength_35 : decode cX2_ringLength 35 = .ok (.istore_n 2, 1) := by decide +kernel
theorem dX2_ringLength_36 : decode cX2_ringLength 36 = .ok (.iload_n 2, 1) := by decide +kernel
theorem dX2_ringLength_37 : decode cX2_ringLength 37 = .ok (.sipush 300, 3) := by decide +kernel
theorem dX2_ringLength_40 : decode cX2_ringLength 40 = .ok (.if_icmp .gt 35, 3) := by decide +kernel
theorem dX2_ringLength_43 : decode cX2_ringLength 43 = .ok (.aload_n 0, 1) := by decide +kernel
theorem dX2_ringLength_44 : decode cX2_ringLength 44 = .ok (.getfield 33, 3) := by decide +kernel
theorem dX2_ringLength_47 : decode cX2_ringLength 47 = .ok (.iload_n 1, 1) := by decide +kernel
theorem dX2_ringLength_48 : decode cX2_ringLength 48 = .ok (.iconst 1, 1) := by decide +kernel
theorem dX2_ringLength_49 : decode cX2_ringLength 49 = .ok (.invokevirtual 119, 3) := by decide +kernel
theorem dX2_ringLength_52 : decode cX2_ringLength 52 = .ok (.pop, 1) := by decide +kernel
theorem dX2_ringLength_53 : decode cX2_ringLength 53 = .ok (.aload_n 0, 1) := by decide +kernel
theorem dX2_ringLength_54 : decode cX2_ringLength 54 = .ok (.getfield 33, 3) := by decide +kernel
theorem dX2_ringLength_57 : decode cX2_ringLength 57 = .ok (.aload_n 0, 1) := by decide +kernel
theorem dX2_ringLength_58 : decode cX2_ringLength 58 = .ok (.getfield 36, 3) := by decide +kernel
theorem dX2_ringLength_61 : decode cX2_ringLength 61 = .ok (.invokevirtual 186, 3) := by decide +kernel
theorem dX2_ringLength_64 : decode cX2_ringLength 64 = .ok (.ifCond .eq 5, 3) := by decide +kernel
theorem dX2_ringLength_67 : decode cX2_ringLength 67 = .ok (.iload_n 2, 1) := by decide +kernel
theorem dX2_ringLength_68 : decode cX2_ringLength 68 = .ok (.ireturn, 1) := by decide +kernel
theorem dX2_ringLength_69 : decode cX2_ringLength 69 = .ok (.iinc 2 1, 3) := by decide +kernel
theorem dX2_ringLength_72 : decode cX2_ringLength 72 = .ok (.goto (-36), 3) := by decide +kernel
theorem dX2_ringLength_75 : decode cX2_ringLength 75 = .ok (.bipush (-6), 2) := by decide +kernel
theorem dX2_ringLength_77 : decode cX2_ringLength 77 = .ok (.ireturn, 1) := by decide +kernel
set_option maxRecDepth 20000 in
theorem ggX2_ringStart_X0_become : GoodIn wsX2_ringStart wsX0_become := goodIn_r _ [7, 8, 9, 10, 11, 12, 13, 14, 15, 16, 17, 18, 19, 98, 99, 100, 101, 102, 103, 104, 105, 106] (by decide +kernel) (by decide +kernel)
set_option maxRecDepth 20000 in
theorem gX2_ringStart_X0_become_n173 : GoodIn wsX2_ringStart (wsX0_become) := ggX2_ringStart_X0_become
set_option maxRecDepth 20000 in
theorem ggX2_ringStart_X0_goOn : GoodIn wsX2_ringStart wsX0_goOn := goodIn_r _ [22, 19, 23, 24, 25, 5, 26, 27, 28, 29, 30, 31, 32, 33, 34, 35, 36, 37, 38, 15, 39, 40, 41, 42, 16, 43, 44, 45, 46, 47, 48, 49, 17, 13, 8, 50, 51, 52, 53, 54, 55, 56, 57, 58, 59, 60, 61, 62, 63, 64, 65, 66, 67, 68, 69, 70, 71, 72, 73, 74, 75, 76, 77, 78, 79, 80, 81, 14, 82, 83, 84, 85, 98, 99, 100, 101, 102, 103, 104, 105, 106] (by decide +kernel) (by decide +kernel)
set_option maxRecDepth 20000 in
theorem gX2_ringStart_X0_goOn_n119 : GoodIn wsX2_ringStart (wsX0_goOn) := ggX2_ringStart_X0_goOn
set_option maxRecDepth 20000 in
theorem ggX2_ringStart_X0_isAlike : GoodIn wsX2_ringStart wsX0_isAlike := goodIn_r _ [88, 13, 17, 19, 82, 83, 84, 5, 85, 14, 35, 36, 37, 38, 15, 62, 63, 64, 65, 16, 31, 32, 33, 34, 98, 99, 100, 101, 102, 103, 104, 105, 106] (by decide +kernel) (by decide +kernel)
set_option maxRecDepth 20000 in
theorem gX2_ringStart_X0_isAlike_n186 : GoodIn wsX2_ringStart (wsX0_isAlike) := ggX2_ringStart_X0_isAlike
theorem dX2_ringStart_0 : decode cX2_ringStart 0 = .ok (.aload_n 0, 1) := by decide +kernel
theorem dX2_ringStart_1 : decode cX2_ringStart 1 = .ok (.getfield 36, 3) := by decide +kernel
theorem dX2_ringStart_4 : decode cX2_ringStart 4 = .ok (.aload_n 0, 1) := by decide +kernel
theorem dX2_ringStart_5 : decode cX2_ringStart 5 = .ok (.getfield 19, 3) := by decide +kernel
theorem dX2_ringStart_8 : decode cX2_ringStart 8 = .ok (.invokevirtual 173, 3) := by decide +kernel
theorem dX2_ringStart_11 : decode cX2_ringStart 11 = .ok (.aload_n 0, 1) := by decide +kernel
theorem dX2_ringStart_12 : decode cX2_ringStart 12 = .ok (.getfield 33, 3) := by decide +kernel
theorem dX2_ringStart_15 : decode cX2_ringStart 15 = .ok (.aload_n 0, 1) := by decide +kernel
theorem dX2_ringStart_16 : decode cX2_ringStart 16 = .ok (.getfield 19, 3) := by decide +kernel
theorem dX2_ringStart_19 : decode cX2_ringStart 19 = .ok (.invokevirtual 173, 3) := by decide +kernel
theorem dX2_ringStart_22 : decode cX2_ringStart 22 = .ok (.aload_n 0, 1) := by decide +kernel
theorem dX2_ringStart_23 : decode cX2_ringStart 23 = .ok (.getfield 33, 3) := by decide +kernel
theorem dX2_ringStart_26 : decode cX2_ringStart 26 = .ok (.iload_n 1, 1) := by decide +kernel
theorem dX2_ringStart_27 : decode cX2_ringStart 27 = .ok (.iload_n 2, 1) := by decide +kernel
theorem dX2_ringStart_28 : decode cX2_ringStart 28 = .ok (.invokevirtual 119, 3) := by decide +kernel
theorem dX2_ringStart_31 : decode cX2_ringStart 31 = .ok (.pop, 1) := by decide +kernel
theorem dX2_ringStart_32 : decode cX2_ringStart 32 = .ok (.iconst 0, 1) := by decide +kernel
theorem dX2_ringStart_33 : decode cX2_ringStart 33 = .ok (.istore_n 3, 1) := by decide +kernel
theorem dX2_ringStart_34 : decode cX2_ringStart 34 = .ok (.iload_n 3, 1) := by decide +kernel
theorem dX2_ringStart_35 : decode cX2_ringStart 35 = .ok (.iload_n 2, 1) := by decide +kernel
theorem dX2_ringStart_36 : decode cX2_ringStart 36 = .ok (.iadd, 1) := by decide +kernel
theorem dX2_ringStart_37 : decode cX2_ringStart 37 = .ok (.sipush 300, 3) := by decide +kernel
theorem dX2_ringStart_40 : decode cX2_ringStart 40 = .ok (.if_icmp .gt 45, 3) := by decide +kernel
theorem dX2_ringStart_43 : decode cX2_ringStart 43 = .ok (.aload_n 0, 1) := by decide +kernel
theorem dX2_ringStart_44 : decode cX2_ringStart 44 = .ok (.getfield 33, 3) := by decide +kernel
theorem dX2_ringStart_47 : decode cX2_ringStart 47 = .ok (.aload_n 0, 1) := by decide +kernel
theorem dX2_ringStart_48 : decode cX2_ringStart 48 = .ok (.getfield 36, 3) := by decide +kernel
theorem dX2_ringStart_51 : decode cX2_ringStart 51 = .ok (.invokevirtual 186, 3) := by decide +kernel
theorem dX2_ringStart_54 : decode cX2_ringStart 54 = .ok (.ifCond .eq 5, 3) := by decide +kernel
theorem dX2_ringStart_57 : decode cX2_ringStart 57 = .ok (.iload_n 3, 1) := by decide +kernel
theorem dX2_ringStart_58 : decode cX2_ringStart 58 = .ok (.ireturn, 1) := by decide +kernel
theorem dX2_ringStart_59 : decode cX2_ringStart 59 = .ok (.aload_n 0, 1) := by decide +kernel
theorem dX2_ringStart_60 : decode cX2_ringStart 60 = .ok (.getfield 33, 3) := by decide +kernel
theorem dX2_ringStart_63 : decode cX2_ringStart 63 = .ok (.iload_n 1, 1) := by decide +kernel
theorem dX2_ringStart_64 : decode cX2_ringStart 64 = .ok (.iconst 1, 1) := by decide +kernel
theorem dX2_ringStart_65 : decode cX2_ringStart 65 = .ok (.invokevirtual 119, 3) := by decide +kernel
theorem dX2_ringStart_68 : decode cX2_ringStart 68 = .ok (.pop, 1) := by decide +kernel
theorem dX2_ringStart_69 : decode cX2_ringStart 69 = .ok (.aload_n 0, 1) := by decide +kernel
theorem dX2_ringStart_70 : decode cX2_ringStart 70 = .ok (.getfield 36, 3) := by decide +kernel
theorem dX2_ringStart_73 : decode cX2_ringStart 73 = .ok (.iload_n 1, 1) := by decide +kernel
theorem dX2_ringStart_74 : decode cX2_ringStart 74 = .ok (.iconst 1, 1) := by decide +kernel
theorem dX2_ringStart_75 : decode cX2_ringStart 75 = .ok (.invokevirtual 119, 3) := by decide +kernel
theorem dX2_ringStart_78 : decode cX2_ringStart 78 = .ok (.pop, 1) := by decide +kernel
theorem dX2_ringStart_79 : decode cX2_ringStart 79 = .ok (.iinc 3 1, 3) := by decide +kernel
theorem dX2_ringStart_82 : decode cX2_ringStart 82 = .ok (.goto (-48), 3) := by decide +kernel
theorem dX2_ringStart_85 : decode cX2_ringStart 85 = .ok (.bipush (-6), 2) := by decide +kernel
theorem dX2_ringStart_87 : decode cX2_ringStart 87 = .ok (.ireturn, 1) := by decide +kernel
set_option maxRecDepth 20000 in
theorem ggX2_image_X2_isWithin : GoodIn wsX2_image wsX2_isWithin := goodIn_r _ [6] (by decide +kernel) (by decide +kernel)
set_option maxRecDepth 20000 in
theorem gX2_image_X2_isWithin : GoodIn wsX2_image (va_wsS RX2 50 yX2_isWithin wsX2_isWithin) := goodIn_app (goodIn_of _ (by decide +kernel)) ggX2_image_X2_isWithin
set_option maxRecDepth 20000 in
theorem ggX2_image_X2_imageAt : GoodIn wsX2_image wsX2_imageAt := goodIn_r _ [10, 11, 12, 29, 30, 31, 32, 33, 34, 35, 36, 37] (by decide +kernel) (by decide +kernel)
set_option maxRecDepth 20000 in
theorem gX2_image_X2_imageAt : GoodIn wsX2_image (wsV RX2 190 RX2 yX2_imageAt wsX2_imageAt) := goodIn_app (goodIn_of _ (by decide +kernel)) ggX2_image_X2_imageAt
set_option maxRecDepth 20000 in
theorem ggX2_image_X0_become : GoodIn wsX2_image wsX0_become := goodIn_r _ [16, 17, 18, 19, 20, 21, 22, 23, 24, 25, 26, 27, 28, 38, 39, 40, 41, 42, 43, 44, 45, 46] (by decide +kernel) (by decide +kernel)
set_option maxRecDepth 20000 in
theorem gX2_image_X0_become_n173 : GoodIn wsX2_image (wsX0_become) := ggX2_image_X0_become
theorem dX2_image_0 : decode cX2_image 0 = .ok (.iload_n 1, 1) := by decide +kernel
theorem dX2_image_1 : decode cX2_image 1 = .ok (.iconst 0, 1) := by decide +kernel
theorem dX2_image_2 : decode cX2_image 2 = .ok (.iconst 1, 1) := by decide +kernel
theorem dX2_image_3 : decode cX2_image 3 = .ok (.invokestatic 50, 3) := by decide +kernel
theorem dX2_image_6 : decode cX2_image 6 = .ok (.ifCond .ne 6, 3) := by decide +kernel
theorem dX2_image_9 : decode cX2_image 9 = .ok (.bipush (-2), 2) := by decide +kernel
theorem dX2_image_11 : decode cX2_image 11 = .ok (.ireturn, 1) := by decide +kernel
theorem dX2_image_12 : decode cX2_image 12 = .ok (.aload_n 0, 1) := by decide +kernel
theorem dX2_image_13 : decode cX2_image 13 = .ok (.iload_n 1, 1) := by decide +kernel
theorem dX2_image_14 : decode cX2_image 14 = .ok (.invokevirtual 190, 3) := by decide +kernel
theorem dX2_image_17 : decode cX2_image 17 = .ok (.aload_n 0, 1) := by decide +kernel
theorem dX2_image_18 : decode cX2_image 18 = .ok (.getfield 19, 3) := by decide +kernel
theorem dX2_image_21 : decode cX2_image 21 = .ok (.invokevirtual 173, 3) := by decide +kernel
theorem dX2_image_24 : decode cX2_image 24 = .ok (.aload_n 0, 1) := by decide +kernel
theorem dX2_image_25 : decode cX2_image 25 = .ok (.dup, 1) := by decide +kernel
theorem dX2_image_26 : decode cX2_image 26 = .ok (.getfield 29, 3) := by decide +kernel
theorem dX2_image_29 : decode cX2_image 29 = .ok (.iconst 1, 1) := by decide +kernel
theorem dX2_image_30 : decode cX2_image 30 = .ok (.iload_n 1, 1) := by decide +kernel
theorem dX2_image_31 : decode cX2_image 31 = .ok (.ishl, 1) := by decide +kernel
theorem dX2_image_32 : decode cX2_image 32 = .ok (.ior, 1) := by decide +kernel
theorem dX2_image_33 : decode cX2_image 33 = .ok (.putfield 29, 3) := by decide +kernel
theorem dX2_image_36 : decode cX2_image 36 = .ok (.iconst 1, 1) := by decide +kernel
theorem dX2_image_37 : decode cX2_image 37 = .ok (.ireturn, 1) := by decide +kernel
set_option maxRecDepth 20000 in
theorem ggX2_restore_X2_isWithin : GoodIn wsX2_restore wsX2_isWithin := goodIn_r _ [6] (by decide +kernel) (by decide +kernel)
set_option maxRecDepth 20000 in
theorem gX2_restore_X2_isWithin : GoodIn wsX2_restore (va_wsS RX2 50 yX2_isWithin wsX2_isWithin) := goodIn_app (goodIn_of _ (by decide +kernel)) ggX2_restore_X2_isWithin
set_option maxRecDepth 20000 in
theorem ggX2_restore_X2_imageAt : GoodIn wsX2_restore wsX2_imageAt := goodIn_r _ [10, 11, 12, 29, 30, 31, 32, 33, 34, 35, 36, 37] (by decide +kernel) (by decide +kernel)
set_option maxRecDepth 20000 in
theorem gX2_restore_X2_imageAt : GoodIn wsX2_restore (wsV RX2 190 RX2 yX2_imageAt wsX2_imageAt) := goodIn_app (goodIn_of _ (by decide +kernel)) ggX2_restore_X2_imageAt
set_option maxRecDepth 20000 in
theorem ggX2_restore_X0_become : GoodIn wsX2_restore wsX0_become := goodIn_r _ [16, 17, 18, 19, 20, 21, 22, 23, 24, 25, 26, 27, 28, 38, 39, 40, 41, 42, 43, 44, 45, 46] (by decide +kernel) (by decide +kernel)
set_option maxRecDepth 20000 in
theorem gX2_restore_X0_become_n173 : GoodIn wsX2_restore (wsX0_become) := ggX2_restore_X0_become
theorem dX2_restore_0 : decode cX2_restore 0 = .ok (.iload_n 1, 1) := by decide +kernel
theorem dX2_restore_1 : decode cX2_restore 1 = .ok (.iconst 0, 1) := by decide +kernel
theorem dX2_restore_2 : decode cX2_restore 2 = .ok (.iconst 1, 1) := by decide +kernel
theorem dX2_restore_3 : decode cX2_restore 3 = .ok (.invokestatic 50, 3) := by decide +kernel
theorem dX2_restore_6 : decode cX2_restore 6 = .ok (.ifCond .ne 6, 3) := by decide +kernel
theorem dX2_restore_9 : decode cX2_restore 9 = .ok (.bipush (-2), 2) := by decide +kernel
theorem dX2_restore_11 : decode cX2_restore 11 = .ok (.ireturn, 1) := by decide +kernel
theorem dX2_restore_12 : decode cX2_restore 12 = .ok (.aload_n 0, 1) := by decide +kernel
theorem dX2_restore_13 : decode cX2_restore 13 = .ok (.getfield 29, 3) := by decide +kernel
theorem dX2_restore_16 : decode cX2_restore 16 = .ok (.iconst 1, 1) := by decide +kernel
theorem dX2_restore_17 : decode cX2_restore 17 = .ok (.iload_n 1, 1) := by decide +kernel
theorem dX2_restore_18 : decode cX2_restore 18 = .ok (.ishl, 1) := by decide +kernel
theorem dX2_restore_19 : decode cX2_restore 19 = .ok (.iand, 1) := by decide +kernel
theorem dX2_restore_20 : decode cX2_restore 20 = .ok (.ifCond .ne 6, 3) := by decide +kernel
theorem dX2_restore_23 : decode cX2_restore 23 = .ok (.bipush (-3), 2) := by decide +kernel
theorem dX2_restore_25 : decode cX2_restore 25 = .ok (.ireturn, 1) := by decide +kernel
theorem dX2_restore_26 : decode cX2_restore 26 = .ok (.aload_n 0, 1) := by decide +kernel
theorem dX2_restore_27 : decode cX2_restore 27 = .ok (.getfield 19, 3) := by decide +kernel
theorem dX2_restore_30 : decode cX2_restore 30 = .ok (.aload_n 0, 1) := by decide +kernel
theorem dX2_restore_31 : decode cX2_restore 31 = .ok (.iload_n 1, 1) := by decide +kernel
theorem dX2_restore_32 : decode cX2_restore 32 = .ok (.invokevirtual 190, 3) := by decide +kernel
theorem dX2_restore_35 : decode cX2_restore 35 = .ok (.invokevirtual 173, 3) := by decide +kernel
theorem dX2_restore_38 : decode cX2_restore 38 = .ok (.iconst 1, 1) := by decide +kernel
theorem dX2_restore_39 : decode cX2_restore 39 = .ok (.ireturn, 1) := by decide +kernel
theorem dX2_imageAt_0 : decode cX2_imageAt 0 = .ok (.iload_n 1, 1) := by decide +kernel
theorem dX2_imageAt_1 : decode cX2_imageAt 1 = .ok (.ifCond .ne 10, 3) := by decide +kernel
theorem dX2_imageAt_4 : decode cX2_imageAt 4 = .ok (.aload_n 0, 1) := by decide +kernel
theorem dX2_imageAt_5 : decode cX2_imageAt 5 = .ok (.getfield 23, 3) := by decide +kernel
theorem dX2_imageAt_8 : decode cX2_imageAt 8 = .ok (.goto 7, 3) := by decide +kernel
theorem dX2_imageAt_11 : decode cX2_imageAt 11 = .ok (.aload_n 0, 1) := by decide +kernel
theorem dX2_imageAt_12 : decode cX2_imageAt 12 = .ok (.getfield 26, 3) := by decide +kernel
theorem dX2_imageAt_15 : decode cX2_imageAt 15 = .ok (.areturn, 1) := by decide +kernel
set_option maxRecDepth 20000 in
theorem ggX2_count_X0_allJobs : GoodIn wsX2_count wsX0_allJobs := goodIn_r _ [7, 8, 37, 38, 39, 40, 41, 42, 43, 44, 45] (by decide +kernel) (by decide +kernel)
set_option maxRecDepth 20000 in
theorem gX2_count_X0_allJobs_n145 : GoodIn wsX2_count (wsX0_allJobs) := ggX2_count_X0_allJobs
set_option maxRecDepth 20000 in
theorem ggX2_count_X0_measure : GoodIn wsX2_count wsX0_measure := goodIn_r _ [11, 12, 13, 14, 15, 16, 17, 18, 5, 19, 20, 37, 38, 39, 40, 41, 42, 43, 44, 45] (by decide +kernel) (by decide +kernel)
set_option maxRecDepth 20000 in
theorem gX2_count_X0_measure_n161 : GoodIn wsX2_count (wsX0_measure) := ggX2_count_X0_measure
set_option maxRecDepth 20000 in
theorem ggX2_count_X0_colours : GoodIn wsX2_count wsX0_colours := goodIn_r _ [23, 24, 12, 13, 14, 15, 37, 38, 39, 40, 41, 42, 43, 44, 45] (by decide +kernel) (by decide +kernel)
set_option maxRecDepth 20000 in
theorem gX2_count_X0_colours_n194 : GoodIn wsX2_count (wsX0_colours) := ggX2_count_X0_colours
set_option maxRecDepth 20000 in
theorem ggX2_count_X0_nodesBelowZero : GoodIn wsX2_count wsX0_nodesBelowZero := goodIn_r _ [27, 8, 37, 38, 39, 40, 41, 42, 43, 44, 45] (by decide +kernel) (by decide +kernel)
set_option maxRecDepth 20000 in
theorem gX2_count_X0_nodesBelowZero_n156 : GoodIn wsX2_count (wsX0_nodesBelowZero) := ggX2_count_X0_nodesBelowZero
theorem dX2_count_0 : decode cX2_count 0 = .ok (.iload_n 1, 1) := by decide +kernel
theorem dX2_count_1 : decode cX2_count 1 = .ok (.tableswitch 113 0 7 #[47, 55, 63, 71, 84, 92, 100, 108], 47) := by decide +kernel
theorem dX2_count_48 : decode cX2_count 48 = .ok (.aload_n 0, 1) := by decide +kernel
theorem dX2_count_49 : decode cX2_count 49 = .ok (.getfield 19, 3) := by decide +kernel
theorem dX2_count_52 : decode cX2_count 52 = .ok (.getfield 65, 3) := by decide +kernel
theorem dX2_count_55 : decode cX2_count 55 = .ok (.ireturn, 1) := by decide +kernel
theorem dX2_count_56 : decode cX2_count 56 = .ok (.aload_n 0, 1) := by decide +kernel
theorem dX2_count_57 : decode cX2_count 57 = .ok (.getfield 10, 3) := by decide +kernel
theorem dX2_count_60 : decode cX2_count 60 = .ok (.getfield 76, 3) := by decide +kernel
theorem dX2_count_63 : decode cX2_count 63 = .ok (.ireturn, 1) := by decide +kernel
theorem dX2_count_64 : decode cX2_count 64 = .ok (.aload_n 0, 1) := by decide +kernel
theorem dX2_count_65 : decode cX2_count 65 = .ok (.getfield 19, 3) := by decide +kernel
theorem dX2_count_68 : decode cX2_count 68 = .ok (.getfield 122, 3) := by decide +kernel
theorem dX2_count_71 : decode cX2_count 71 = .ok (.ireturn, 1) := by decide +kernel
theorem dX2_count_72 : decode cX2_count 72 = .ok (.aload_n 0, 1) := by decide +kernel
theorem dX2_count_73 : decode cX2_count 73 = .ok (.getfield 19, 3) := by decide +kernel
theorem dX2_count_76 : decode cX2_count 76 = .ok (.invokevirtual 145, 3) := by decide +kernel
theorem dX2_count_79 : decode cX2_count 79 = .ok (.l2i, 1) := by decide +kernel
theorem dX2_count_80 : decode cX2_count 80 = .ok (.sipush 10000, 3) := by decide +kernel
theorem dX2_count_83 : decode cX2_count 83 = .ok (.iadd, 1) := by decide +kernel
theorem dX2_count_84 : decode cX2_count 84 = .ok (.ireturn, 1) := by decide +kernel
theorem dX2_count_85 : decode cX2_count 85 = .ok (.aload_n 0, 1) := by decide +kernel
theorem dX2_count_86 : decode cX2_count 86 = .ok (.getfield 19, 3) := by decide +kernel
theorem dX2_count_89 : decode cX2_count 89 = .ok (.invokevirtual 161, 3) := by decide +kernel
theorem dX2_count_92 : decode cX2_count 92 = .ok (.ireturn, 1) := by decide +kernel
theorem dX2_count_93 : decode cX2_count 93 = .ok (.aload_n 0, 1) := by decide +kernel
theorem dX2_count_94 : decode cX2_count 94 = .ok (.getfield 19, 3) := by decide +kernel
theorem dX2_count_97 : decode cX2_count 97 = .ok (.invokevirtual 194, 3) := by decide +kernel
theorem dX2_count_100 : decode cX2_count 100 = .ok (.ireturn, 1) := by decide +kernel
theorem dX2_count_101 : decode cX2_count 101 = .ok (.aload_n 0, 1) := by decide +kernel
theorem dX2_count_102 : decode cX2_count 102 = .ok (.getfield 19, 3) := by decide +kernel
theorem dX2_count_105 : decode cX2_count 105 = .ok (.invokevirtual 156, 3) := by decide +kernel
theorem dX2_count_108 : decode cX2_count 108 = .ok (.ireturn, 1) := by decide +kernel
theorem dX2_count_109 : decode cX2_count 109 = .ok (.aload_n 0, 1) := by decide +kernel
theorem dX2_count_110 : decode cX2_count 110 = .ok (.getfield 29, 3) := by decide +kernel
theorem dX2_count_113 : decode cX2_count 113 = .ok (.ireturn, 1) := by decide +kernel
theorem dX2_count_114 : decode cX2_count 114 = .ok (.bipush (-2), 2) := by decide +kernel
theorem dX2_count_116 : decode cX2_count 116 = .ok (.ireturn, 1) := by decide +kernel
theorem dX2_isWithin_0 : decode cX2_isWithin 0 = .ok (.iload_n 0, 1) := by decide +kernel
theorem dX2_isWithin_1 : decode cX2_isWithin 1 = .ok (.iload_n 1, 1) := by decide +kernel
theorem dX2_isWithin_2 : decode cX2_isWithin 2 = .ok (.if_icmp .lt 12, 3) := by decide +kernel
theorem dX2_isWithin_5 : decode cX2_isWithin 5 = .ok (.iload_n 0, 1) := by decide +kernel
theorem dX2_isWithin_6 : decode cX2_isWithin 6 = .ok (.iload_n 2, 1) := by decide +kernel
theorem dX2_isWithin_7 : decode cX2_isWithin 7 = .ok (.if_icmp .gt 7, 3) := by decide +kernel
theorem dX2_isWithin_10 : decode cX2_isWithin 10 = .ok (.iconst 1, 1) := by decide +kernel
theorem dX2_isWithin_11 : decode cX2_isWithin 11 = .ok (.goto 4, 3) := by decide +kernel
theorem dX2_isWithin_14 : decode cX2_isWithin 14 = .ok (.iconst 0, 1) := by decide +kernel
theorem dX2_isWithin_15 : decode cX2_isWithin 15 = .ok (.ireturn, 1) := by decide +kernel
set_option maxRecDepth 20000 in
theorem ggX2_isNode_X2_isWithin : GoodIn wsX2_isNode wsX2_isWithin := goodIn_r _ [4] (by decide +kernel) (by decide +kernel)
set_option maxRecDepth 20000 in
theorem gX2_isNode_X2_isWithin : GoodIn wsX2_isNode (va_wsS RX2 50 yX2_isWithin wsX2_isWithin) := goodIn_app (goodIn_of _ (by decide +kernel)) ggX2_isNode_X2_isWithin
theorem dX2_isNode_0 : decode cX2_isNode 0 = .ok (.iload_n 0, 1) := by decide +kernel
theorem dX2_isNode_1 : decode cX2_isNode 1 = .ok (.iconst 0, 1) := by decide +kernel
theorem dX2_isNode_2 : decode cX2_isNode 2 = .ok (.bipush 7, 2) := by decide +kernel
theorem dX2_isNode_4 : decode cX2_isNode 4 = .ok (.invokestatic 50, 3) := by decide +kernel
theorem dX2_isNode_7 : decode cX2_isNode 7 = .ok (.ireturn, 1) := by decide +kernel
set_option maxRecDepth 20000 in
theorem ggX2_isRule_X2_isWithin : GoodIn wsX2_isRule wsX2_isWithin := goodIn_r _ [4] (by decide +kernel) (by decide +kernel)
set_option maxRecDepth 20000 in
theorem gX2_isRule_X2_isWithin : GoodIn wsX2_isRule (va_wsS RX2 50 yX2_isWithin wsX2_isWithin) := goodIn_app (goodIn_of _ (by decide +kernel)) ggX2_isRule_X2_isWithin
theorem dX2_isRule_0 : decode cX2_isRule 0 = .ok (.iload_n 0, 1) := by decide +kernel
theorem dX2_isRule_1 : decode cX2_isRule 1 = .ok (.iconst 0, 1) := by decide +kernel
theorem dX2_isRule_2 : decode cX2_isRule 2 = .ok (.iconst 2, 1) := by decide +kernel
theorem dX2_isRule_3 : decode cX2_isRule 3 = .ok (.invokestatic 50, 3) := by decide +kernel
theorem dX2_isRule_6 : decode cX2_isRule 6 = .ok (.ireturn, 1) := by decide +kernel
set_option maxRecDepth 20000 in
theorem ggX2_isPart_X2_isWithin : GoodIn wsX2_isPart wsX2_isWithin := goodIn_r _ [4] (by decide +kernel) (by decide +kernel)
set_option maxRecDepth 20000 in
theorem gX2_isPart_X2_isWithin : GoodIn wsX2_isPart (va_wsS RX2 50 yX2_isWithin wsX2_isWithin) := goodIn_app (goodIn_of _ (by decide +kernel)) ggX2_isPart_X2_isWithin
theorem dX2_isPart_0 : decode cX2_isPart 0 = .ok (.iload_n 0, 1) := by decide +kernel
theorem dX2_isPart_1 : decode cX2_isPart 1 = .ok (.iconst 0, 1) := by decide +kernel
theorem dX2_isPart_2 : decode cX2_isPart 2 = .ok (.iconst 1, 1) := by decide +kernel
theorem dX2_isPart_3 : decode cX2_isPart 3 = .ok (.invokestatic 50, 3) := by decide +kernel
theorem dX2_isPart_6 : decode cX2_isPart 6 = .ok (.ireturn, 1) := by decide +kernel
theorem dX2_spot_0 : decode cX2_spot 0 = .ok (.iload_n 0, 1) := by decide +kernel
theorem dX2_spot_1 : decode cX2_spot 1 = .ok (.iload_n 1, 1) := by decide +kernel
theorem dX2_spot_2 : decode cX2_spot 2 = .ok (.if_icmp .ge 12, 3) := by decide +kernel
theorem dX2_spot_5 : decode cX2_spot 5 = .ok (.iload_n 0, 1) := by decide +kernel
theorem dX2_spot_6 : decode cX2_spot 6 = .ok (.bipush 8, 2) := by decide +kernel
theorem dX2_spot_8 : decode cX2_spot 8 = .ok (.imul, 1) := by decide +kernel
theorem dX2_spot_9 : decode cX2_spot 9 = .ok (.iload_n 1, 1) := by decide +kernel
theorem dX2_spot_10 : decode cX2_spot 10 = .ok (.iadd, 1) := by decide +kernel
theorem dX2_spot_11 : decode cX2_spot 11 = .ok (.goto 9, 3) := by decide +kernel
theorem dX2_spot_14 : decode cX2_spot 14 = .ok (.iload_n 1, 1) := by decide +kernel
theorem dX2_spot_15 : decode cX2_spot 15 = .ok (.bipush 8, 2) := by decide +kernel
theorem dX2_spot_17 : decode cX2_spot 17 = .ok (.imul, 1) := by decide +kernel
theorem dX2_spot_18 : decode cX2_spot 18 = .ok (.iload_n 0, 1) := by decide +kernel
theorem dX2_spot_19 : decode cX2_spot 19 = .ok (.iadd, 1) := by decide +kernel
theorem dX2_spot_20 : decode cX2_spot 20 = .ok (.ireturn, 1) := by decide +kernel
set_option maxRecDepth 20000 in
theorem ggX2_partOf_X2_commonDivisor : GoodIn wsX2_partOf wsX2_commonDivisor := goodIn_r _ [4, 5, 6, 7, 8] (by decide +kernel) (by decide +kernel)
set_option maxRecDepth 20000 in
theorem gX2_partOf_X2_commonDivisor : GoodIn wsX2_partOf (va_wsS RX2 197 yX2_commonDivisor wsX2_commonDivisor) := goodIn_app (goodIn_of _ (by decide +kernel)) ggX2_partOf_X2_commonDivisor
theorem dX2_partOf_0 : decode cX2_partOf 0 = .ok (.lload_n 0, 1) := by decide +kernel
theorem dX2_partOf_1 : decode cX2_partOf 1 = .ok (.lload_n 2, 1) := by decide +kernel
theorem dX2_partOf_2 : decode cX2_partOf 2 = .ok (.invokestatic 197, 3) := by decide +kernel
theorem dX2_partOf_5 : decode cX2_partOf 5 = .ok (.lstore 5, 2) := by decide +kernel
theorem dX2_partOf_7 : decode cX2_partOf 7 = .ok (.lload 5, 2) := by decide +kernel
theorem dX2_partOf_9 : decode cX2_partOf 9 = .ok (.lconst 0, 1) := by decide +kernel
theorem dX2_partOf_10 : decode cX2_partOf 10 = .ok (.lcmp, 1) := by decide +kernel
theorem dX2_partOf_11 : decode cX2_partOf 11 = .ok (.ifCond .ne 7, 3) := by decide +kernel
theorem dX2_partOf_14 : decode cX2_partOf 14 = .ok (.iload 4, 2) := by decide +kernel
theorem dX2_partOf_16 : decode cX2_partOf 16 = .ok (.i2l, 1) := by decide +kernel
theorem dX2_partOf_17 : decode cX2_partOf 17 = .ok (.lreturn, 1) := by decide +kernel
theorem dX2_partOf_18 : decode cX2_partOf 18 = .ok (.iload 4, 2) := by decide +kernel
theorem dX2_partOf_20 : decode cX2_partOf 20 = .ok (.ifCond .ne 7, 3) := by decide +kernel
theorem dX2_partOf_23 : decode cX2_partOf 23 = .ok (.lload_n 0, 1) := by decide +kernel
theorem dX2_partOf_24 : decode cX2_partOf 24 = .ok (.goto 4, 3) := by decide +kernel
theorem dX2_partOf_27 : decode cX2_partOf 27 = .ok (.lload_n 2, 1) := by decide +kernel
theorem dX2_partOf_28 : decode cX2_partOf 28 = .ok (.lload 5, 2) := by decide +kernel
theorem dX2_partOf_30 : decode cX2_partOf 30 = .ok (.ldiv, 1) := by decide +kernel
theorem dX2_partOf_31 : decode cX2_partOf 31 = .ok (.lreturn, 1) := by decide +kernel
theorem dX2_commonDivisor_0 : decode cX2_commonDivisor 0 = .ok (.lload_n 0, 1) := by decide +kernel
theorem dX2_commonDivisor_1 : decode cX2_commonDivisor 1 = .ok (.invokestatic 201, 3) := by decide +kernel
theorem dX2_commonDivisor_4 : decode cX2_commonDivisor 4 = .ok (.lstore 4, 2) := by decide +kernel
theorem dX2_commonDivisor_6 : decode cX2_commonDivisor 6 = .ok (.lload_n 2, 1) := by decide +kernel
theorem dX2_commonDivisor_7 : decode cX2_commonDivisor 7 = .ok (.invokestatic 201, 3) := by decide +kernel
theorem dX2_commonDivisor_10 : decode cX2_commonDivisor 10 = .ok (.lstore 6, 2) := by decide +kernel
theorem dX2_commonDivisor_12 : decode cX2_commonDivisor 12 = .ok (.iconst 0, 1) := by decide +kernel
theorem dX2_commonDivisor_13 : decode cX2_commonDivisor 13 = .ok (.istore 8, 2) := by decide +kernel
theorem dX2_commonDivisor_15 : decode cX2_commonDivisor 15 = .ok (.iload 8, 2) := by decide +kernel
theorem dX2_commonDivisor_17 : decode cX2_commonDivisor 17 = .ok (.bipush 100, 2) := by decide +kernel
theorem dX2_commonDivisor_19 : decode cX2_commonDivisor 19 = .ok (.if_icmp .ge 31, 3) := by decide +kernel
theorem dX2_commonDivisor_22 : decode cX2_commonDivisor 22 = .ok (.lload 6, 2) := by decide +kernel
theorem dX2_commonDivisor_24 : decode cX2_commonDivisor 24 = .ok (.lconst 0, 1) := by decide +kernel
theorem dX2_commonDivisor_25 : decode cX2_commonDivisor 25 = .ok (.lcmp, 1) := by decide +kernel
theorem dX2_commonDivisor_26 : decode cX2_commonDivisor 26 = .ok (.ifCond .eq 24, 3) := by decide +kernel
theorem dX2_commonDivisor_29 : decode cX2_commonDivisor 29 = .ok (.lload 4, 2) := by decide +kernel
theorem dX2_commonDivisor_31 : decode cX2_commonDivisor 31 = .ok (.lload 6, 2) := by decide +kernel
theorem dX2_commonDivisor_33 : decode cX2_commonDivisor 33 = .ok (.lrem, 1) := by decide +kernel
theorem dX2_commonDivisor_34 : decode cX2_commonDivisor 34 = .ok (.lstore 9, 2) := by decide +kernel
theorem dX2_commonDivisor_36 : decode cX2_commonDivisor 36 = .ok (.lload 6, 2) := by decide +kernel
theorem dX2_commonDivisor_38 : decode cX2_commonDivisor 38 = .ok (.lstore 4, 2) := by decide +kernel
theorem dX2_commonDivisor_40 : decode cX2_commonDivisor 40 = .ok (.lload 9, 2) := by decide +kernel
theorem dX2_commonDivisor_42 : decode cX2_commonDivisor 42 = .ok (.lstore 6, 2) := by decide +kernel
theorem dX2_commonDivisor_44 : decode cX2_commonDivisor 44 = .ok (.iinc 8 1, 3) := by decide +kernel
theorem dX2_commonDivisor_47 : decode cX2_commonDivisor 47 = .ok (.goto (-32), 3) := by decide +kernel
theorem dX2_commonDivisor_50 : decode cX2_commonDivisor 50 = .ok (.lload 4, 2) := by decide +kernel
theorem dX2_commonDivisor_52 : decode cX2_commonDivisor 52 = .ok (.lreturn, 1) := by decide +kernel
