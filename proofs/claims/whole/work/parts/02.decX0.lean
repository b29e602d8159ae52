theorem dX0_init_0 : decode cX0_init 0 = .ok (.aload_n 0, 1) := by decide +kernel
theorem dX0_init_1 : decode cX0_init 1 = .ok (.invokespecial 3, 3) := by decide +kernel
theorem dX0_init_4 : decode cX0_init 4 = .ok (.aload_n 0, 1) := by decide +kernel
theorem dX0_init_5 : decode cX0_init 5 = .ok (.bipush 8, 2) := by decide +kernel
theorem dX0_init_7 : decode cX0_init 7 = .ok (.newarray .int, 2) := by decide +kernel
theorem dX0_init_9 : decode cX0_init 9 = .ok (.putfield 9, 3) := by decide +kernel
theorem dX0_init_12 : decode cX0_init 12 = .ok (.aload_n 0, 1) := by decide +kernel
theorem dX0_init_13 : decode cX0_init 13 = .ok (.bipush 8, 2) := by decide +kernel
theorem dX0_init_15 : decode cX0_init 15 = .ok (.newarray .int, 2) := by decide +kernel
theorem dX0_init_17 : decode cX0_init 17 = .ok (.putfield 15, 3) := by decide +kernel
theorem dX0_init_20 : decode cX0_init 20 = .ok (.aload_n 0, 1) := by decide +kernel
theorem dX0_init_21 : decode cX0_init 21 = .ok (.bipush 8, 2) := by decide +kernel
theorem dX0_init_23 : decode cX0_init 23 = .ok (.newarray .int, 2) := by decide +kernel
theorem dX0_init_25 : decode cX0_init 25 = .ok (.putfield 18, 3) := by decide +kernel
theorem dX0_init_28 : decode cX0_init 28 = .ok (.aload_n 0, 1) := by decide +kernel
theorem dX0_init_29 : decode cX0_init 29 = .ok (.bipush 8, 2) := by decide +kernel
theorem dX0_init_31 : decode cX0_init 31 = .ok (.newarray .int, 2) := by decide +kernel
theorem dX0_init_33 : decode cX0_init 33 = .ok (.putfield 21, 3) := by decide +kernel
theorem dX0_init_36 : decode cX0_init 36 = .ok (.aload_n 0, 1) := by decide +kernel
theorem dX0_init_37 : decode cX0_init 37 = .ok (.bipush 64, 2) := by decide +kernel
theorem dX0_init_39 : decode cX0_init 39 = .ok (.newarray .int, 2) := by decide +kernel
theorem dX0_init_41 : decode cX0_init 41 = .ok (.putfield 24, 3) := by decide +kernel
theorem dX0_init_44 : decode cX0_init 44 = .ok (.aload_n 0, 1) := by decide +kernel
theorem dX0_init_45 : decode cX0_init 45 = .ok (.bipush 64, 2) := by decide +kernel
theorem dX0_init_47 : decode cX0_init 47 = .ok (.newarray .int, 2) := by decide +kernel
theorem dX0_init_49 : decode cX0_init 49 = .ok (.putfield 27, 3) := by decide +kernel
theorem dX0_init_52 : decode cX0_init 52 = .ok (.aload_n 0, 1) := by decide +kernel
theorem dX0_init_53 : decode cX0_init 53 = .ok (.bipush 8, 2) := by decide +kernel
theorem dX0_init_55 : decode cX0_init 55 = .ok (.newarray .int, 2) := by decide +kernel
theorem dX0_init_57 : decode cX0_init 57 = .ok (.putfield 30, 3) := by decide +kernel
theorem dX0_init_60 : decode cX0_init 60 = .ok (.aload_n 0, 1) := by decide +kernel
theorem dX0_init_61 : decode cX0_init 61 = .ok (.iconst 0, 1) := by decide +kernel
theorem dX0_init_62 : decode cX0_init 62 = .ok (.putfield 33, 3) := by decide +kernel
theorem dX0_init_65 : decode cX0_init 65 = .ok (.aload_n 0, 1) := by decide +kernel
theorem dX0_init_66 : decode cX0_init 66 = .ok (.iconst 0, 1) := by decide +kernel
theorem dX0_init_67 : decode cX0_init 67 = .ok (.putfield 37, 3) := by decide +kernel
theorem dX0_init_70 : decode cX0_init 70 = .ok (.iconst 0, 1) := by decide +kernel
theorem dX0_init_71 : decode cX0_init 71 = .ok (.istore_n 1, 1) := by decide +kernel
theorem dX0_init_72 : decode cX0_init 72 = .ok (.iload_n 1, 1) := by decide +kernel
theorem dX0_init_73 : decode cX0_init 73 = .ok (.bipush 8, 2) := by decide +kernel
theorem dX0_init_75 : decode cX0_init 75 = .ok (.if_icmp .ge 16, 3) := by decide +kernel
theorem dX0_init_78 : decode cX0_init 78 = .ok (.aload_n 0, 1) := by decide +kernel
theorem dX0_init_79 : decode cX0_init 79 = .ok (.getfield 9, 3) := by decide +kernel
theorem dX0_init_82 : decode cX0_init 82 = .ok (.iload_n 1, 1) := by decide +kernel
theorem dX0_init_83 : decode cX0_init 83 = .ok (.iconst 1, 1) := by decide +kernel
theorem dX0_init_84 : decode cX0_init 84 = .ok (.iastore, 1) := by decide +kernel
theorem dX0_init_85 : decode cX0_init 85 = .ok (.iinc 1 1, 3) := by decide +kernel
theorem dX0_init_88 : decode cX0_init 88 = .ok (.goto (-16), 3) := by decide +kernel
theorem dX0_init_91 : decode cX0_init 91 = .ok (.iconst 0, 1) := by decide +kernel
theorem dX0_init_92 : decode cX0_init 92 = .ok (.istore_n 1, 1) := by decide +kernel
theorem dX0_init_93 : decode cX0_init 93 = .ok (.iload_n 1, 1) := by decide +kernel
theorem dX0_init_94 : decode cX0_init 94 = .ok (.bipush 64, 2) := by decide +kernel
theorem dX0_init_96 : decode cX0_init 96 = .ok (.if_icmp .ge 16, 3) := by decide +kernel
theorem dX0_init_99 : decode cX0_init 99 = .ok (.aload_n 0, 1) := by decide +kernel
theorem dX0_init_100 : decode cX0_init 100 = .ok (.getfield 24, 3) := by decide +kernel
theorem dX0_init_103 : decode cX0_init 103 = .ok (.iload_n 1, 1) := by decide +kernel
theorem dX0_init_104 : decode cX0_init 104 = .ok (.iconst (-1), 1) := by decide +kernel
theorem dX0_init_105 : decode cX0_init 105 = .ok (.iastore, 1) := by decide +kernel
theorem dX0_init_106 : decode cX0_init 106 = .ok (.iinc 1 1, 3) := by decide +kernel
theorem dX0_init_109 : decode cX0_init 109 = .ok (.goto (-16), 3) := by decide +kernel
theorem dX0_init_112 : decode cX0_init 112 = .ok (.return_, 1) := by decide +kernel
theorem dX0_become_0 : decode cX0_become 0 = .ok (.aload_n 1, 1) := by decide +kernel
theorem dX0_become_1 : decode cX0_become 1 = .ok (.getfield 9, 3) := by decide +kernel
theorem dX0_become_4 : decode cX0_become 4 = .ok (.iconst 0, 1) := by decide +kernel
theorem dX0_become_5 : decode cX0_become 5 = .ok (.aload_n 0, 1) := by decide +kernel
theorem dX0_become_6 : decode cX0_become 6 = .ok (.getfield 9, 3) := by decide +kernel
theorem dX0_become_9 : decode cX0_become 9 = .ok (.iconst 0, 1) := by decide +kernel
theorem dX0_become_10 : decode cX0_become 10 = .ok (.bipush 8, 2) := by decide +kernel
theorem dX0_become_12 : decode cX0_become 12 = .ok (.invokestatic 40, 3) := by decide +kernel
theorem dX0_become_15 : decode cX0_become 15 = .ok (.aload_n 1, 1) := by decide +kernel
theorem dX0_become_16 : decode cX0_become 16 = .ok (.getfield 15, 3) := by decide +kernel
theorem dX0_become_19 : decode cX0_become 19 = .ok (.iconst 0, 1) := by decide +kernel
theorem dX0_become_20 : decode cX0_become 20 = .ok (.aload_n 0, 1) := by decide +kernel
theorem dX0_become_21 : decode cX0_become 21 = .ok (.getfield 15, 3) := by decide +kernel
theorem dX0_become_24 : decode cX0_become 24 = .ok (.iconst 0, 1) := by decide +kernel
theorem dX0_become_25 : decode cX0_become 25 = .ok (.bipush 8, 2) := by decide +kernel
theorem dX0_become_27 : decode cX0_become 27 = .ok (.invokestatic 40, 3) := by decide +kernel
theorem dX0_become_30 : decode cX0_become 30 = .ok (.aload_n 1, 1) := by decide +kernel
theorem dX0_become_31 : decode cX0_become 31 = .ok (.getfield 18, 3) := by decide +kernel
theorem dX0_become_34 : decode cX0_become 34 = .ok (.iconst 0, 1) := by decide +kernel
theorem dX0_become_35 : decode cX0_become 35 = .ok (.aload_n 0, 1) := by decide +kernel
theorem dX0_become_36 : decode cX0_become 36 = .ok (.getfield 18, 3) := by decide +kernel
theorem dX0_become_39 : decode cX0_become 39 = .ok (.iconst 0, 1) := by decide +kernel
theorem dX0_become_40 : decode cX0_become 40 = .ok (.bipush 8, 2) := by decide +kernel
theorem dX0_become_42 : decode cX0_become 42 = .ok (.invokestatic 40, 3) := by decide +kernel
theorem dX0_become_45 : decode cX0_become 45 = .ok (.aload_n 1, 1) := by decide +kernel
theorem dX0_become_46 : decode cX0_become 46 = .ok (.getfield 21, 3) := by decide +kernel
theorem dX0_become_49 : decode cX0_become 49 = .ok (.iconst 0, 1) := by decide +kernel
theorem dX0_become_50 : decode cX0_become 50 = .ok (.aload_n 0, 1) := by decide +kernel
theorem dX0_become_51 : decode cX0_become 51 = .ok (.getfield 21, 3) := by decide +kernel
theorem dX0_become_54 : decode cX0_become 54 = .ok (.iconst 0, 1) := by decide +kernel
theorem dX0_become_55 : decode cX0_become 55 = .ok (.bipush 8, 2) := by decide +kernel
theorem dX0_become_57 : decode cX0_become 57 = .ok (.invokestatic 40, 3) := by decide +kernel
theorem dX0_become_60 : decode cX0_become 60 = .ok (.aload_n 1, 1) := by decide +kernel
theorem dX0_become_61 : decode cX0_become 61 = .ok (.getfield 24, 3) := by decide +kernel
theorem dX0_become_64 : decode cX0_become 64 = .ok (.iconst 0, 1) := by decide +kernel
theorem dX0_become_65 : decode cX0_become 65 = .ok (.aload_n 0, 1) := by decide +kernel
theorem dX0_become_66 : decode cX0_become 66 = .ok (.getfield 24, 3) := by decide +kernel
theorem dX0_become_69 : decode cX0_become 69 = .ok (.iconst 0, 1) := by decide +kernel
theorem dX0_become_70 : decode cX0_become 70 = .ok (.bipush 64, 2) := by decide +kernel
theorem dX0_become_72 : decode cX0_become 72 = .ok (.invokestatic 40, 3) := by decide +kernel
theorem dX0_become_75 : decode cX0_become 75 = .ok (.aload_n 1, 1) := by decide +kernel
theorem dX0_become_76 : decode cX0_become 76 = .ok (.getfield 27, 3) := by decide +kernel
theorem dX0_become_79 : decode cX0_become 79 = .ok (.iconst 0, 1) := by decide +kernel
theorem dX0_become_80 : decode cX0_become 80 = .ok (.aload_n 0, 1) := by decide +kernel
theorem dX0_become_81 : decode cX0_become 81 = .ok (.getfield 27, 3) := by decide +kernel
theorem dX0_become_84 : decode cX0_become 84 = .ok (.iconst 0, 1) := by decide +kernel
theorem dX0_become_85 : decode cX0_become 85 = .ok (.bipush 64, 2) := by decide +kernel
theorem dX0_become_87 : decode cX0_become 87 = .ok (.invokestatic 40, 3) := by decide +kernel
theorem dX0_become_90 : decode cX0_become 90 = .ok (.aload_n 0, 1) := by decide +kernel
theorem dX0_become_91 : decode cX0_become 91 = .ok (.aload_n 1, 1) := by decide +kernel
theorem dX0_become_92 : decode cX0_become 92 = .ok (.getfield 33, 3) := by decide +kernel
theorem dX0_become_95 : decode cX0_become 95 = .ok (.putfield 33, 3) := by decide +kernel
theorem dX0_become_98 : decode cX0_become 98 = .ok (.aload_n 0, 1) := by decide +kernel
theorem dX0_become_99 : decode cX0_become 99 = .ok (.aload_n 1, 1) := by decide +kernel
theorem dX0_become_100 : decode cX0_become 100 = .ok (.getfield 37, 3) := by decide +kernel
theorem dX0_become_103 : decode cX0_become 103 = .ok (.putfield 37, 3) := by decide +kernel
theorem dX0_become_106 : decode cX0_become 106 = .ok (.return_, 1) := by decide +kernel
set_option maxRecDepth 20000 in
theorem ggX0_joins_X2_spot : GoodIn wsX0_joins wsX2_spot := goodIn_r _ [4] (by decide +kernel) (by decide +kernel)
set_option maxRecDepth 20000 in
theorem gX0_joins_X2_spot_n46 : GoodIn wsX0_joins (wsX2_spot) := ggX0_joins_X2_spot
theorem dX0_joins_0 : decode cX0_joins 0 = .ok (.aload_n 0, 1) := by decide +kernel
theorem dX0_joins_1 : decode cX0_joins 1 = .ok (.getfield 24, 3) := by decide +kernel
theorem dX0_joins_4 : decode cX0_joins 4 = .ok (.iload_n 1, 1) := by decide +kernel
theorem dX0_joins_5 : decode cX0_joins 5 = .ok (.iload_n 2, 1) := by decide +kernel
theorem dX0_joins_6 : decode cX0_joins 6 = .ok (.invokestatic 46, 3) := by decide +kernel
theorem dX0_joins_9 : decode cX0_joins 9 = .ok (.iaload, 1) := by decide +kernel
theorem dX0_joins_10 : decode cX0_joins 10 = .ok (.iconst (-1), 1) := by decide +kernel
theorem dX0_joins_11 : decode cX0_joins 11 = .ok (.if_icmp .eq 7, 3) := by decide +kernel
theorem dX0_joins_14 : decode cX0_joins 14 = .ok (.iconst 1, 1) := by decide +kernel
theorem dX0_joins_15 : decode cX0_joins 15 = .ok (.goto 4, 3) := by decide +kernel
theorem dX0_joins_18 : decode cX0_joins 18 = .ok (.iconst 0, 1) := by decide +kernel
theorem dX0_joins_19 : decode cX0_joins 19 = .ok (.ireturn, 1) := by decide +kernel
set_option maxRecDepth 20000 in
theorem ggX0_lay_X0_lift : GoodIn wsX0_lay wsX0_lift := goodIn_r _ [8, 1, 9, 2, 3, 10, 11, 12, 7, 13, 14, 15, 16, 17, 18, 19, 20, 21, 22, 23, 24, 25] (by decide +kernel) (by decide +kernel)
set_option maxRecDepth 20000 in
theorem gX0_lay_X0_lift : GoodIn wsX0_lay (wsV RX0 50 RX0 yX0_lift wsX0_lift) := goodIn_app (goodIn_of _ (by decide +kernel)) ggX0_lay_X0_lift
set_option maxRecDepth 20000 in
theorem ggX0_lay_X2_spot : GoodIn wsX0_lay wsX2_spot := goodIn_r _ [16] (by decide +kernel) (by decide +kernel)
set_option maxRecDepth 20000 in
theorem gX0_lay_X2_spot_n46 : GoodIn wsX0_lay (wsX2_spot) := ggX0_lay_X2_spot
theorem dX0_lay_0 : decode cX0_lay 0 = .ok (.aload_n 0, 1) := by decide +kernel
theorem dX0_lay_1 : decode cX0_lay 1 = .ok (.iload_n 1, 1) := by decide +kernel
theorem dX0_lay_2 : decode cX0_lay 2 = .ok (.iload_n 2, 1) := by decide +kernel
theorem dX0_lay_3 : decode cX0_lay 3 = .ok (.invokevirtual 50, 3) := by decide +kernel
theorem dX0_lay_6 : decode cX0_lay 6 = .ok (.aload_n 0, 1) := by decide +kernel
theorem dX0_lay_7 : decode cX0_lay 7 = .ok (.getfield 24, 3) := by decide +kernel
theorem dX0_lay_10 : decode cX0_lay 10 = .ok (.iload_n 1, 1) := by decide +kernel
theorem dX0_lay_11 : decode cX0_lay 11 = .ok (.iload_n 2, 1) := by decide +kernel
theorem dX0_lay_12 : decode cX0_lay 12 = .ok (.invokestatic 46, 3) := by decide +kernel
theorem dX0_lay_15 : decode cX0_lay 15 = .ok (.iload_n 3, 1) := by decide +kernel
theorem dX0_lay_16 : decode cX0_lay 16 = .ok (.iastore, 1) := by decide +kernel
theorem dX0_lay_17 : decode cX0_lay 17 = .ok (.aload_n 0, 1) := by decide +kernel
theorem dX0_lay_18 : decode cX0_lay 18 = .ok (.getfield 21, 3) := by decide +kernel
theorem dX0_lay_21 : decode cX0_lay 21 = .ok (.iload_n 1, 1) := by decide +kernel
theorem dX0_lay_22 : decode cX0_lay 22 = .ok (.dup2, 1) := by decide +kernel
theorem dX0_lay_23 : decode cX0_lay 23 = .ok (.iaload, 1) := by decide +kernel
theorem dX0_lay_24 : decode cX0_lay 24 = .ok (.iconst 1, 1) := by decide +kernel
theorem dX0_lay_25 : decode cX0_lay 25 = .ok (.iadd, 1) := by decide +kernel
theorem dX0_lay_26 : decode cX0_lay 26 = .ok (.iastore, 1) := by decide +kernel
theorem dX0_lay_27 : decode cX0_lay 27 = .ok (.aload_n 0, 1) := by decide +kernel
theorem dX0_lay_28 : decode cX0_lay 28 = .ok (.getfield 21, 3) := by decide +kernel
theorem dX0_lay_31 : decode cX0_lay 31 = .ok (.iload_n 2, 1) := by decide +kernel
theorem dX0_lay_32 : decode cX0_lay 32 = .ok (.dup2, 1) := by decide +kernel
theorem dX0_lay_33 : decode cX0_lay 33 = .ok (.iaload, 1) := by decide +kernel
theorem dX0_lay_34 : decode cX0_lay 34 = .ok (.iconst 1, 1) := by decide +kernel
theorem dX0_lay_35 : decode cX0_lay 35 = .ok (.iadd, 1) := by decide +kernel
theorem dX0_lay_36 : decode cX0_lay 36 = .ok (.iastore, 1) := by decide +kernel
theorem dX0_lay_37 : decode cX0_lay 37 = .ok (.aload_n 0, 1) := by decide +kernel
theorem dX0_lay_38 : decode cX0_lay 38 = .ok (.dup, 1) := by decide +kernel
theorem dX0_lay_39 : decode cX0_lay 39 = .ok (.getfield 33, 3) := by decide +kernel
theorem dX0_lay_42 : decode cX0_lay 42 = .ok (.iconst 1, 1) := by decide +kernel
theorem dX0_lay_43 : decode cX0_lay 43 = .ok (.iadd, 1) := by decide +kernel
theorem dX0_lay_44 : decode cX0_lay 44 = .ok (.putfield 33, 3) := by decide +kernel
theorem dX0_lay_47 : decode cX0_lay 47 = .ok (.return_, 1) := by decide +kernel
set_option maxRecDepth 20000 in
theorem ggX0_lift_X0_joins : GoodIn wsX0_lift wsX0_joins := goodIn_r _ [9, 1, 10, 11, 12, 13, 14, 15, 16, 17, 18, 19, 20, 21] (by decide +kernel) (by decide +kernel)
set_option maxRecDepth 20000 in
theorem gX0_lift_X0_joins : GoodIn wsX0_lift (wsV RX0 54 RX0 yX0_joins wsX0_joins) := goodIn_app (goodIn_of _ (by decide +kernel)) ggX0_lift_X0_joins
set_option maxRecDepth 20000 in
theorem ggX0_lift_X2_spot : GoodIn wsX0_lift wsX2_spot := goodIn_r _ [12] (by decide +kernel) (by decide +kernel)
set_option maxRecDepth 20000 in
theorem gX0_lift_X2_spot_n46 : GoodIn wsX0_lift (wsX2_spot) := ggX0_lift_X2_spot
theorem dX0_lift_0 : decode cX0_lift 0 = .ok (.aload_n 0, 1) := by decide +kernel
theorem dX0_lift_1 : decode cX0_lift 1 = .ok (.iload_n 1, 1) := by decide +kernel
theorem dX0_lift_2 : decode cX0_lift 2 = .ok (.iload_n 2, 1) := by decide +kernel
theorem dX0_lift_3 : decode cX0_lift 3 = .ok (.invokevirtual 54, 3) := by decide +kernel
theorem dX0_lift_6 : decode cX0_lift 6 = .ok (.ifCond .ne 4, 3) := by decide +kernel
theorem dX0_lift_9 : decode cX0_lift 9 = .ok (.return_, 1) := by decide +kernel
theorem dX0_lift_10 : decode cX0_lift 10 = .ok (.aload_n 0, 1) := by decide +kernel
theorem dX0_lift_11 : decode cX0_lift 11 = .ok (.getfield 24, 3) := by decide +kernel
theorem dX0_lift_14 : decode cX0_lift 14 = .ok (.iload_n 1, 1) := by decide +kernel
theorem dX0_lift_15 : decode cX0_lift 15 = .ok (.iload_n 2, 1) := by decide +kernel
theorem dX0_lift_16 : decode cX0_lift 16 = .ok (.invokestatic 46, 3) := by decide +kernel
theorem dX0_lift_19 : decode cX0_lift 19 = .ok (.iconst (-1), 1) := by decide +kernel
theorem dX0_lift_20 : decode cX0_lift 20 = .ok (.iastore, 1) := by decide +kernel
theorem dX0_lift_21 : decode cX0_lift 21 = .ok (.aload_n 0, 1) := by decide +kernel
theorem dX0_lift_22 : decode cX0_lift 22 = .ok (.getfield 27, 3) := by decide +kernel
theorem dX0_lift_25 : decode cX0_lift 25 = .ok (.iload_n 1, 1) := by decide +kernel
theorem dX0_lift_26 : decode cX0_lift 26 = .ok (.iload_n 2, 1) := by decide +kernel
theorem dX0_lift_27 : decode cX0_lift 27 = .ok (.invokestatic 46, 3) := by decide +kernel
theorem dX0_lift_30 : decode cX0_lift 30 = .ok (.iconst 0, 1) := by decide +kernel
theorem dX0_lift_31 : decode cX0_lift 31 = .ok (.iastore, 1) := by decide +kernel
theorem dX0_lift_32 : decode cX0_lift 32 = .ok (.aload_n 0, 1) := by decide +kernel
theorem dX0_lift_33 : decode cX0_lift 33 = .ok (.getfield 21, 3) := by decide +kernel
theorem dX0_lift_36 : decode cX0_lift 36 = .ok (.iload_n 1, 1) := by decide +kernel
theorem dX0_lift_37 : decode cX0_lift 37 = .ok (.dup2, 1) := by decide +kernel
theorem dX0_lift_38 : decode cX0_lift 38 = .ok (.iaload, 1) := by decide +kernel
theorem dX0_lift_39 : decode cX0_lift 39 = .ok (.iconst 1, 1) := by decide +kernel
theorem dX0_lift_40 : decode cX0_lift 40 = .ok (.isub, 1) := by decide +kernel
theorem dX0_lift_41 : decode cX0_lift 41 = .ok (.iastore, 1) := by decide +kernel
theorem dX0_lift_42 : decode cX0_lift 42 = .ok (.aload_n 0, 1) := by decide +kernel
theorem dX0_lift_43 : decode cX0_lift 43 = .ok (.getfield 21, 3) := by decide +kernel
theorem dX0_lift_46 : decode cX0_lift 46 = .ok (.iload_n 2, 1) := by decide +kernel
theorem dX0_lift_47 : decode cX0_lift 47 = .ok (.dup2, 1) := by decide +kernel
theorem dX0_lift_48 : decode cX0_lift 48 = .ok (.iaload, 1) := by decide +kernel
theorem dX0_lift_49 : decode cX0_lift 49 = .ok (.iconst 1, 1) := by decide +kernel
theorem dX0_lift_50 : decode cX0_lift 50 = .ok (.isub, 1) := by decide +kernel
theorem dX0_lift_51 : decode cX0_lift 51 = .ok (.iastore, 1) := by decide +kernel
theorem dX0_lift_52 : decode cX0_lift 52 = .ok (.aload_n 0, 1) := by decide +kernel
theorem dX0_lift_53 : decode cX0_lift 53 = .ok (.dup, 1) := by decide +kernel
theorem dX0_lift_54 : decode cX0_lift 54 = .ok (.getfield 33, 3) := by decide +kernel
theorem dX0_lift_57 : decode cX0_lift 57 = .ok (.iconst 1, 1) := by decide +kernel
theorem dX0_lift_58 : decode cX0_lift 58 = .ok (.isub, 1) := by decide +kernel
theorem dX0_lift_59 : decode cX0_lift 59 = .ok (.putfield 33, 3) := by decide +kernel
theorem dX0_lift_62 : decode cX0_lift 62 = .ok (.return_, 1) := by decide +kernel
set_option maxRecDepth 20000 in
theorem ggX0_liftAll_X0_lift : GoodIn wsX0_liftAll wsX0_lift := goodIn_r _ [5, 6, 7, 8, 9, 10, 11, 12, 4, 13, 14, 15, 16, 17, 18, 19, 20, 21, 22, 23, 24, 25] (by decide +kernel) (by decide +kernel)
set_option maxRecDepth 20000 in
theorem gX0_liftAll_X0_lift : GoodIn wsX0_liftAll (wsV RX0 50 RX0 yX0_lift wsX0_lift) := goodIn_app (goodIn_of _ (by decide +kernel)) ggX0_liftAll_X0_lift
theorem dX0_liftAll_0 : decode cX0_liftAll 0 = .ok (.iconst 0, 1) := by decide +kernel
theorem dX0_liftAll_1 : decode cX0_liftAll 1 = .ok (.istore_n 1, 1) := by decide +kernel
theorem dX0_liftAll_2 : decode cX0_liftAll 2 = .ok (.iload_n 1, 1) := by decide +kernel
theorem dX0_liftAll_3 : decode cX0_liftAll 3 = .ok (.bipush 8, 2) := by decide +kernel
theorem dX0_liftAll_5 : decode cX0_liftAll 5 = .ok (.if_icmp .ge 31, 3) := by decide +kernel
theorem dX0_liftAll_8 : decode cX0_liftAll 8 = .ok (.iload_n 1, 1) := by decide +kernel
theorem dX0_liftAll_9 : decode cX0_liftAll 9 = .ok (.iconst 1, 1) := by decide +kernel
theorem dX0_liftAll_10 : decode cX0_liftAll 10 = .ok (.iadd, 1) := by decide +kernel
theorem dX0_liftAll_11 : decode cX0_liftAll 11 = .ok (.istore_n 2, 1) := by decide +kernel
theorem dX0_liftAll_12 : decode cX0_liftAll 12 = .ok (.iload_n 2, 1) := by decide +kernel
theorem dX0_liftAll_13 : decode cX0_liftAll 13 = .ok (.bipush 8, 2) := by decide +kernel
theorem dX0_liftAll_15 : decode cX0_liftAll 15 = .ok (.if_icmp .ge 15, 3) := by decide +kernel
theorem dX0_liftAll_18 : decode cX0_liftAll 18 = .ok (.aload_n 0, 1) := by decide +kernel
theorem dX0_liftAll_19 : decode cX0_liftAll 19 = .ok (.iload_n 1, 1) := by decide +kernel
theorem dX0_liftAll_20 : decode cX0_liftAll 20 = .ok (.iload_n 2, 1) := by decide +kernel
theorem dX0_liftAll_21 : decode cX0_liftAll 21 = .ok (.invokevirtual 50, 3) := by decide +kernel
theorem dX0_liftAll_24 : decode cX0_liftAll 24 = .ok (.iinc 2 1, 3) := by decide +kernel
theorem dX0_liftAll_27 : decode cX0_liftAll 27 = .ok (.goto (-15), 3) := by decide +kernel
theorem dX0_liftAll_30 : decode cX0_liftAll 30 = .ok (.iinc 1 1, 3) := by decide +kernel
theorem dX0_liftAll_33 : decode cX0_liftAll 33 = .ok (.goto (-31), 3) := by decide +kernel
theorem dX0_liftAll_36 : decode cX0_liftAll 36 = .ok (.return_, 1) := by decide +kernel
theorem dX0_startAgain_0 : decode cX0_startAgain 0 = .ok (.iconst 0, 1) := by decide +kernel
theorem dX0_startAgain_1 : decode cX0_startAgain 1 = .ok (.istore_n 1, 1) := by decide +kernel
theorem dX0_startAgain_2 : decode cX0_startAgain 2 = .ok (.iload_n 1, 1) := by decide +kernel
theorem dX0_startAgain_3 : decode cX0_startAgain 3 = .ok (.bipush 8, 2) := by decide +kernel
theorem dX0_startAgain_5 : decode cX0_startAgain 5 = .ok (.if_icmp .ge 16, 3) := by decide +kernel
theorem dX0_startAgain_8 : decode cX0_startAgain 8 = .ok (.aload_n 0, 1) := by decide +kernel
theorem dX0_startAgain_9 : decode cX0_startAgain 9 = .ok (.getfield 18, 3) := by decide +kernel
theorem dX0_startAgain_12 : decode cX0_startAgain 12 = .ok (.iload_n 1, 1) := by decide +kernel
theorem dX0_startAgain_13 : decode cX0_startAgain 13 = .ok (.iconst 0, 1) := by decide +kernel
theorem dX0_startAgain_14 : decode cX0_startAgain 14 = .ok (.iastore, 1) := by decide +kernel
theorem dX0_startAgain_15 : decode cX0_startAgain 15 = .ok (.iinc 1 1, 3) := by decide +kernel
theorem dX0_startAgain_18 : decode cX0_startAgain 18 = .ok (.goto (-16), 3) := by decide +kernel
theorem dX0_startAgain_21 : decode cX0_startAgain 21 = .ok (.iconst 0, 1) := by decide +kernel
theorem dX0_startAgain_22 : decode cX0_startAgain 22 = .ok (.istore_n 1, 1) := by decide +kernel
theorem dX0_startAgain_23 : decode cX0_startAgain 23 = .ok (.iload_n 1, 1) := by decide +kernel
theorem dX0_startAgain_24 : decode cX0_startAgain 24 = .ok (.bipush 64, 2) := by decide +kernel
theorem dX0_startAgain_26 : decode cX0_startAgain 26 = .ok (.if_icmp .ge 16, 3) := by decide +kernel
theorem dX0_startAgain_29 : decode cX0_startAgain 29 = .ok (.aload_n 0, 1) := by decide +kernel
theorem dX0_startAgain_30 : decode cX0_startAgain 30 = .ok (.getfield 27, 3) := by decide +kernel
theorem dX0_startAgain_33 : decode cX0_startAgain 33 = .ok (.iload_n 1, 1) := by decide +kernel
theorem dX0_startAgain_34 : decode cX0_startAgain 34 = .ok (.iconst 0, 1) := by decide +kernel
theorem dX0_startAgain_35 : decode cX0_startAgain 35 = .ok (.iastore, 1) := by decide +kernel
theorem dX0_startAgain_36 : decode cX0_startAgain 36 = .ok (.iinc 1 1, 3) := by decide +kernel
theorem dX0_startAgain_39 : decode cX0_startAgain 39 = .ok (.goto (-16), 3) := by decide +kernel
theorem dX0_startAgain_42 : decode cX0_startAgain 42 = .ok (.aload_n 0, 1) := by decide +kernel
theorem dX0_startAgain_43 : decode cX0_startAgain 43 = .ok (.iconst 0, 1) := by decide +kernel
theorem dX0_startAgain_44 : decode cX0_startAgain 44 = .ok (.putfield 37, 3) := by decide +kernel
theorem dX0_startAgain_47 : decode cX0_startAgain 47 = .ok (.return_, 1) := by decide +kernel
theorem dX0_slots_0 : decode cX0_slots 0 = .ok (.aload_n 0, 1) := by decide +kernel
theorem dX0_slots_1 : decode cX0_slots 1 = .ok (.getfield 21, 3) := by decide +kernel
theorem dX0_slots_4 : decode cX0_slots 4 = .ok (.iload_n 1, 1) := by decide +kernel
theorem dX0_slots_5 : decode cX0_slots 5 = .ok (.iaload, 1) := by decide +kernel
theorem dX0_slots_6 : decode cX0_slots 6 = .ok (.ifCond .le 14, 3) := by decide +kernel
theorem dX0_slots_9 : decode cX0_slots 9 = .ok (.aload_n 0, 1) := by decide +kernel
theorem dX0_slots_10 : decode cX0_slots 10 = .ok (.getfield 21, 3) := by decide +kernel
theorem dX0_slots_13 : decode cX0_slots 13 = .ok (.iload_n 1, 1) := by decide +kernel
theorem dX0_slots_14 : decode cX0_slots 14 = .ok (.iaload, 1) := by decide +kernel
theorem dX0_slots_15 : decode cX0_slots 15 = .ok (.iconst 1, 1) := by decide +kernel
theorem dX0_slots_16 : decode cX0_slots 16 = .ok (.iadd, 1) := by decide +kernel
theorem dX0_slots_17 : decode cX0_slots 17 = .ok (.goto 4, 3) := by decide +kernel
theorem dX0_slots_20 : decode cX0_slots 20 = .ok (.iconst 1, 1) := by decide +kernel
theorem dX0_slots_21 : decode cX0_slots 21 = .ok (.ireturn, 1) := by decide +kernel
set_option maxRecDepth 20000 in
theorem ggX0_rotorLeftOver_X0_slots : GoodIn wsX0_rotorLeftOver wsX0_slots := goodIn_r _ [6, 7, 8, 9, 10, 11, 12, 13, 14, 15, 16] (by decide +kernel) (by decide +kernel)
set_option maxRecDepth 20000 in
theorem gX0_rotorLeftOver_X0_slots : GoodIn wsX0_rotorLeftOver (wsV RX0 58 RX0 yX0_slots wsX0_slots) := goodIn_app (goodIn_of _ (by decide +kernel)) ggX0_rotorLeftOver_X0_slots
theorem dX0_rotorLeftOver_0 : decode cX0_rotorLeftOver 0 = .ok (.aload_n 0, 1) := by decide +kernel
theorem dX0_rotorLeftOver_1 : decode cX0_rotorLeftOver 1 = .ok (.getfield 18, 3) := by decide +kernel
theorem dX0_rotorLeftOver_4 : decode cX0_rotorLeftOver 4 = .ok (.iload_n 1, 1) := by decide +kernel
theorem dX0_rotorLeftOver_5 : decode cX0_rotorLeftOver 5 = .ok (.iaload, 1) := by decide +kernel
theorem dX0_rotorLeftOver_6 : decode cX0_rotorLeftOver 6 = .ok (.aload_n 0, 1) := by decide +kernel
theorem dX0_rotorLeftOver_7 : decode cX0_rotorLeftOver 7 = .ok (.iload_n 1, 1) := by decide +kernel
theorem dX0_rotorLeftOver_8 : decode cX0_rotorLeftOver 8 = .ok (.invokevirtual 58, 3) := by decide +kernel
theorem dX0_rotorLeftOver_11 : decode cX0_rotorLeftOver 11 = .ok (.irem, 1) := by decide +kernel
theorem dX0_rotorLeftOver_12 : decode cX0_rotorLeftOver 12 = .ok (.ireturn, 1) := by decide +kernel
set_option maxRecDepth 20000 in
theorem ggX0_measure_X0_slots : GoodIn wsX0_measure wsX0_slots := goodIn_r _ [9, 10, 11, 12, 13, 14, 15, 16, 17, 18, 19] (by decide +kernel) (by decide +kernel)
set_option maxRecDepth 20000 in
theorem gX0_measure_X0_slots : GoodIn wsX0_measure (wsV RX0 58 RX0 yX0_slots wsX0_slots) := goodIn_app (goodIn_of _ (by decide +kernel)) ggX0_measure_X0_slots
theorem dX0_measure_0 : decode cX0_measure 0 = .ok (.iconst 1, 1) := by decide +kernel
theorem dX0_measure_1 : decode cX0_measure 1 = .ok (.istore_n 1, 1) := by decide +kernel
theorem dX0_measure_2 : decode cX0_measure 2 = .ok (.iconst 0, 1) := by decide +kernel
theorem dX0_measure_3 : decode cX0_measure 3 = .ok (.istore_n 2, 1) := by decide +kernel
theorem dX0_measure_4 : decode cX0_measure 4 = .ok (.iload_n 2, 1) := by decide +kernel
theorem dX0_measure_5 : decode cX0_measure 5 = .ok (.bipush 8, 2) := by decide +kernel
theorem dX0_measure_7 : decode cX0_measure 7 = .ok (.if_icmp .ge 19, 3) := by decide +kernel
theorem dX0_measure_10 : decode cX0_measure 10 = .ok (.iload_n 1, 1) := by decide +kernel
theorem dX0_measure_11 : decode cX0_measure 11 = .ok (.aload_n 0, 1) := by decide +kernel
theorem dX0_measure_12 : decode cX0_measure 12 = .ok (.iload_n 2, 1) := by decide +kernel
theorem dX0_measure_13 : decode cX0_measure 13 = .ok (.invokevirtual 58, 3) := by decide +kernel
theorem dX0_measure_16 : decode cX0_measure 16 = .ok (.invokestatic 62, 3) := by decide +kernel
theorem dX0_measure_19 : decode cX0_measure 19 = .ok (.istore_n 1, 1) := by decide +kernel
theorem dX0_measure_20 : decode cX0_measure 20 = .ok (.iinc 2 1, 3) := by decide +kernel
theorem dX0_measure_23 : decode cX0_measure 23 = .ok (.goto (-19), 3) := by decide +kernel
theorem dX0_measure_26 : decode cX0_measure 26 = .ok (.iconst 4, 1) := by decide +kernel
theorem dX0_measure_27 : decode cX0_measure 27 = .ok (.iload_n 1, 1) := by decide +kernel
theorem dX0_measure_28 : decode cX0_measure 28 = .ok (.imul, 1) := by decide +kernel
theorem dX0_measure_29 : decode cX0_measure 29 = .ok (.ireturn, 1) := by decide +kernel
theorem dX0_colours_0 : decode cX0_colours 0 = .ok (.iconst 0, 1) := by decide +kernel
theorem dX0_colours_1 : decode cX0_colours 1 = .ok (.istore_n 1, 1) := by decide +kernel
theorem dX0_colours_2 : decode cX0_colours 2 = .ok (.iconst 0, 1) := by decide +kernel
theorem dX0_colours_3 : decode cX0_colours 3 = .ok (.istore_n 2, 1) := by decide +kernel
theorem dX0_colours_4 : decode cX0_colours 4 = .ok (.iload_n 2, 1) := by decide +kernel
theorem dX0_colours_5 : decode cX0_colours 5 = .ok (.bipush 64, 2) := by decide +kernel
theorem dX0_colours_7 : decode cX0_colours 7 = .ok (.if_icmp .ge 20, 3) := by decide +kernel
theorem dX0_colours_10 : decode cX0_colours 10 = .ok (.iload_n 1, 1) := by decide +kernel
theorem dX0_colours_11 : decode cX0_colours 11 = .ok (.aload_n 0, 1) := by decide +kernel
theorem dX0_colours_12 : decode cX0_colours 12 = .ok (.getfield 24, 3) := by decide +kernel
theorem dX0_colours_15 : decode cX0_colours 15 = .ok (.iload_n 2, 1) := by decide +kernel
theorem dX0_colours_16 : decode cX0_colours 16 = .ok (.iaload, 1) := by decide +kernel
theorem dX0_colours_17 : decode cX0_colours 17 = .ok (.invokestatic 62, 3) := by decide +kernel
theorem dX0_colours_20 : decode cX0_colours 20 = .ok (.istore_n 1, 1) := by decide +kernel
theorem dX0_colours_21 : decode cX0_colours 21 = .ok (.iinc 2 1, 3) := by decide +kernel
theorem dX0_colours_24 : decode cX0_colours 24 = .ok (.goto (-20), 3) := by decide +kernel
theorem dX0_colours_27 : decode cX0_colours 27 = .ok (.iload_n 1, 1) := by decide +kernel
theorem dX0_colours_28 : decode cX0_colours 28 = .ok (.iconst 1, 1) := by decide +kernel
theorem dX0_colours_29 : decode cX0_colours 29 = .ok (.iadd, 1) := by decide +kernel
theorem dX0_colours_30 : decode cX0_colours 30 = .ok (.ireturn, 1) := by decide +kernel
theorem dX0_allSpeeds_0 : decode cX0_allSpeeds 0 = .ok (.iconst 0, 1) := by decide +kernel
theorem dX0_allSpeeds_1 : decode cX0_allSpeeds 1 = .ok (.istore_n 1, 1) := by decide +kernel
theorem dX0_allSpeeds_2 : decode cX0_allSpeeds 2 = .ok (.iconst 0, 1) := by decide +kernel
theorem dX0_allSpeeds_3 : decode cX0_allSpeeds 3 = .ok (.istore_n 2, 1) := by decide +kernel
theorem dX0_allSpeeds_4 : decode cX0_allSpeeds 4 = .ok (.iload_n 2, 1) := by decide +kernel
theorem dX0_allSpeeds_5 : decode cX0_allSpeeds 5 = .ok (.bipush 8, 2) := by decide +kernel
theorem dX0_allSpeeds_7 : decode cX0_allSpeeds 7 = .ok (.if_icmp .ge 18, 3) := by decide +kernel
theorem dX0_allSpeeds_10 : decode cX0_allSpeeds 10 = .ok (.iload_n 1, 1) := by decide +kernel
theorem dX0_allSpeeds_11 : decode cX0_allSpeeds 11 = .ok (.aload_n 0, 1) := by decide +kernel
theorem dX0_allSpeeds_12 : decode cX0_allSpeeds 12 = .ok (.getfield 9, 3) := by decide +kernel
theorem dX0_allSpeeds_15 : decode cX0_allSpeeds 15 = .ok (.iload_n 2, 1) := by decide +kernel
theorem dX0_allSpeeds_16 : decode cX0_allSpeeds 16 = .ok (.iaload, 1) := by decide +kernel
theorem dX0_allSpeeds_17 : decode cX0_allSpeeds 17 = .ok (.iadd, 1) := by decide +kernel
theorem dX0_allSpeeds_18 : decode cX0_allSpeeds 18 = .ok (.istore_n 1, 1) := by decide +kernel
theorem dX0_allSpeeds_19 : decode cX0_allSpeeds 19 = .ok (.iinc 2 1, 3) := by decide +kernel
theorem dX0_allSpeeds_22 : decode cX0_allSpeeds 22 = .ok (.goto (-18), 3) := by decide +kernel
theorem dX0_allSpeeds_25 : decode cX0_allSpeeds 25 = .ok (.iload_n 1, 1) := by decide +kernel
theorem dX0_allSpeeds_26 : decode cX0_allSpeeds 26 = .ok (.ireturn, 1) := by decide +kernel
theorem dX0_allJobs_0 : decode cX0_allJobs 0 = .ok (.lconst 0, 1) := by decide +kernel
theorem dX0_allJobs_1 : decode cX0_allJobs 1 = .ok (.lstore_n 1, 1) := by decide +kernel
theorem dX0_allJobs_2 : decode cX0_allJobs 2 = .ok (.iconst 0, 1) := by decide +kernel
theorem dX0_allJobs_3 : decode cX0_allJobs 3 = .ok (.istore_n 3, 1) := by decide +kernel
theorem dX0_allJobs_4 : decode cX0_allJobs 4 = .ok (.iload_n 3, 1) := by decide +kernel
theorem dX0_allJobs_5 : decode cX0_allJobs 5 = .ok (.bipush 8, 2) := by decide +kernel
theorem dX0_allJobs_7 : decode cX0_allJobs 7 = .ok (.if_icmp .ge 19, 3) := by decide +kernel
theorem dX0_allJobs_10 : decode cX0_allJobs 10 = .ok (.lload_n 1, 1) := by decide +kernel
theorem dX0_allJobs_11 : decode cX0_allJobs 11 = .ok (.aload_n 0, 1) := by decide +kernel
theorem dX0_allJobs_12 : decode cX0_allJobs 12 = .ok (.getfield 15, 3) := by decide +kernel
theorem dX0_allJobs_15 : decode cX0_allJobs 15 = .ok (.iload_n 3, 1) := by decide +kernel
theorem dX0_allJobs_16 : decode cX0_allJobs 16 = .ok (.iaload, 1) := by decide +kernel
theorem dX0_allJobs_17 : decode cX0_allJobs 17 = .ok (.i2l, 1) := by decide +kernel
theorem dX0_allJobs_18 : decode cX0_allJobs 18 = .ok (.ladd, 1) := by decide +kernel
theorem dX0_allJobs_19 : decode cX0_allJobs 19 = .ok (.lstore_n 1, 1) := by decide +kernel
theorem dX0_allJobs_20 : decode cX0_allJobs 20 = .ok (.iinc 3 1, 3) := by decide +kernel
theorem dX0_allJobs_23 : decode cX0_allJobs 23 = .ok (.goto (-19), 3) := by decide +kernel
theorem dX0_allJobs_26 : decode cX0_allJobs 26 = .ok (.lload_n 1, 1) := by decide +kernel
theorem dX0_allJobs_27 : decode cX0_allJobs 27 = .ok (.lreturn, 1) := by decide +kernel
theorem dX0_nodesBelowZero_0 : decode cX0_nodesBelowZero 0 = .ok (.iconst 0, 1) := by decide +kernel
theorem dX0_nodesBelowZero_1 : decode cX0_nodesBelowZero 1 = .ok (.istore_n 1, 1) := by decide +kernel
theorem dX0_nodesBelowZero_2 : decode cX0_nodesBelowZero 2 = .ok (.iconst 0, 1) := by decide +kernel
theorem dX0_nodesBelowZero_3 : decode cX0_nodesBelowZero 3 = .ok (.istore_n 2, 1) := by decide +kernel
theorem dX0_nodesBelowZero_4 : decode cX0_nodesBelowZero 4 = .ok (.iload_n 2, 1) := by decide +kernel
theorem dX0_nodesBelowZero_5 : decode cX0_nodesBelowZero 5 = .ok (.bipush 8, 2) := by decide +kernel
theorem dX0_nodesBelowZero_7 : decode cX0_nodesBelowZero 7 = .ok (.if_icmp .ge 21, 3) := by decide +kernel
theorem dX0_nodesBelowZero_10 : decode cX0_nodesBelowZero 10 = .ok (.aload_n 0, 1) := by decide +kernel
theorem dX0_nodesBelowZero_11 : decode cX0_nodesBelowZero 11 = .ok (.getfield 15, 3) := by decide +kernel
theorem dX0_nodesBelowZero_14 : decode cX0_nodesBelowZero 14 = .ok (.iload_n 2, 1) := by decide +kernel
theorem dX0_nodesBelowZero_15 : decode cX0_nodesBelowZero 15 = .ok (.iaload, 1) := by decide +kernel
theorem dX0_nodesBelowZero_16 : decode cX0_nodesBelowZero 16 = .ok (.ifCond .ge 6, 3) := by decide +kernel
theorem dX0_nodesBelowZero_19 : decode cX0_nodesBelowZero 19 = .ok (.iinc 1 1, 3) := by decide +kernel
theorem dX0_nodesBelowZero_22 : decode cX0_nodesBelowZero 22 = .ok (.iinc 2 1, 3) := by decide +kernel
theorem dX0_nodesBelowZero_25 : decode cX0_nodesBelowZero 25 = .ok (.goto (-21), 3) := by decide +kernel
theorem dX0_nodesBelowZero_28 : decode cX0_nodesBelowZero 28 = .ok (.iload_n 1, 1) := by decide +kernel
theorem dX0_nodesBelowZero_29 : decode cX0_nodesBelowZero 29 = .ok (.ireturn, 1) := by decide +kernel
theorem dX0_loadGap_0 : decode cX0_loadGap 0 = .ok (.aload_n 0, 1) := by decide +kernel
theorem dX0_loadGap_1 : decode cX0_loadGap 1 = .ok (.getfield 15, 3) := by decide +kernel
theorem dX0_loadGap_4 : decode cX0_loadGap 4 = .ok (.iload_n 1, 1) := by decide +kernel
theorem dX0_loadGap_5 : decode cX0_loadGap 5 = .ok (.iaload, 1) := by decide +kernel
theorem dX0_loadGap_6 : decode cX0_loadGap 6 = .ok (.i2l, 1) := by decide +kernel
theorem dX0_loadGap_7 : decode cX0_loadGap 7 = .ok (.aload_n 0, 1) := by decide +kernel
theorem dX0_loadGap_8 : decode cX0_loadGap 8 = .ok (.getfield 9, 3) := by decide +kernel
theorem dX0_loadGap_11 : decode cX0_loadGap 11 = .ok (.iload_n 2, 1) := by decide +kernel
theorem dX0_loadGap_12 : decode cX0_loadGap 12 = .ok (.iaload, 1) := by decide +kernel
theorem dX0_loadGap_13 : decode cX0_loadGap 13 = .ok (.i2l, 1) := by decide +kernel
theorem dX0_loadGap_14 : decode cX0_loadGap 14 = .ok (.lmul, 1) := by decide +kernel
theorem dX0_loadGap_15 : decode cX0_loadGap 15 = .ok (.aload_n 0, 1) := by decide +kernel
theorem dX0_loadGap_16 : decode cX0_loadGap 16 = .ok (.getfield 15, 3) := by decide +kernel
theorem dX0_loadGap_19 : decode cX0_loadGap 19 = .ok (.iload_n 2, 1) := by decide +kernel
theorem dX0_loadGap_20 : decode cX0_loadGap 20 = .ok (.iaload, 1) := by decide +kernel
theorem dX0_loadGap_21 : decode cX0_loadGap 21 = .ok (.i2l, 1) := by decide +kernel
theorem dX0_loadGap_22 : decode cX0_loadGap 22 = .ok (.aload_n 0, 1) := by decide +kernel
theorem dX0_loadGap_23 : decode cX0_loadGap 23 = .ok (.getfield 9, 3) := by decide +kernel
theorem dX0_loadGap_26 : decode cX0_loadGap 26 = .ok (.iload_n 1, 1) := by decide +kernel
theorem dX0_loadGap_27 : decode cX0_loadGap 27 = .ok (.iaload, 1) := by decide +kernel
theorem dX0_loadGap_28 : decode cX0_loadGap 28 = .ok (.i2l, 1) := by decide +kernel
theorem dX0_loadGap_29 : decode cX0_loadGap 29 = .ok (.lmul, 1) := by decide +kernel
theorem dX0_loadGap_30 : decode cX0_loadGap 30 = .ok (.lsub, 1) := by decide +kernel
theorem dX0_loadGap_31 : decode cX0_loadGap 31 = .ok (.lreturn, 1) := by decide +kernel
set_option maxRecDepth 20000 in
theorem ggX0_mostLoaded_X0_loadGap : GoodIn wsX0_mostLoaded wsX0_loadGap := goodIn_r _ [5, 6, 7, 8, 9, 10, 11, 12, 13, 14, 15, 16] (by decide +kernel) (by decide +kernel)
set_option maxRecDepth 20000 in
theorem gX0_mostLoaded_X0_loadGap : GoodIn wsX0_mostLoaded (wsV RX0 67 RX0 yX0_loadGap wsX0_loadGap) := goodIn_app (goodIn_of _ (by decide +kernel)) ggX0_mostLoaded_X0_loadGap
theorem dX0_mostLoaded_0 : decode cX0_mostLoaded 0 = .ok (.iconst 0, 1) := by decide +kernel
theorem dX0_mostLoaded_1 : decode cX0_mostLoaded 1 = .ok (.istore_n 1, 1) := by decide +kernel
theorem dX0_mostLoaded_2 : decode cX0_mostLoaded 2 = .ok (.iconst 1, 1) := by decide +kernel
theorem dX0_mostLoaded_3 : decode cX0_mostLoaded 3 = .ok (.istore_n 2, 1) := by decide +kernel
theorem dX0_mostLoaded_4 : decode cX0_mostLoaded 4 = .ok (.iload_n 2, 1) := by decide +kernel
theorem dX0_mostLoaded_5 : decode cX0_mostLoaded 5 = .ok (.bipush 8, 2) := by decide +kernel
theorem dX0_mostLoaded_7 : decode cX0_mostLoaded 7 = .ok (.if_icmp .ge 22, 3) := by decide +kernel
theorem dX0_mostLoaded_10 : decode cX0_mostLoaded 10 = .ok (.aload_n 0, 1) := by decide +kernel
theorem dX0_mostLoaded_11 : decode cX0_mostLoaded 11 = .ok (.iload_n 2, 1) := by decide +kernel
theorem dX0_mostLoaded_12 : decode cX0_mostLoaded 12 = .ok (.iload_n 1, 1) := by decide +kernel
theorem dX0_mostLoaded_13 : decode cX0_mostLoaded 13 = .ok (.invokevirtual 67, 3) := by decide +kernel
theorem dX0_mostLoaded_16 : decode cX0_mostLoaded 16 = .ok (.lconst 0, 1) := by decide +kernel
theorem dX0_mostLoaded_17 : decode cX0_mostLoaded 17 = .ok (.lcmp, 1) := by decide +kernel
theorem dX0_mostLoaded_18 : decode cX0_mostLoaded 18 = .ok (.ifCond .le 5, 3) := by decide +kernel
theorem dX0_mostLoaded_21 : decode cX0_mostLoaded 21 = .ok (.iload_n 2, 1) := by decide +kernel
theorem dX0_mostLoaded_22 : decode cX0_mostLoaded 22 = .ok (.istore_n 1, 1) := by decide +kernel
theorem dX0_mostLoaded_23 : decode cX0_mostLoaded 23 = .ok (.iinc 2 1, 3) := by decide +kernel
theorem dX0_mostLoaded_26 : decode cX0_mostLoaded 26 = .ok (.goto (-22), 3) := by decide +kernel
theorem dX0_mostLoaded_29 : decode cX0_mostLoaded 29 = .ok (.iload_n 1, 1) := by decide +kernel
theorem dX0_mostLoaded_30 : decode cX0_mostLoaded 30 = .ok (.ireturn, 1) := by decide +kernel
set_option maxRecDepth 20000 in
theorem ggX0_leastLoaded_X0_loadGap : GoodIn wsX0_leastLoaded wsX0_loadGap := goodIn_r _ [5, 6, 7, 8, 9, 10, 11, 12, 13, 14, 15, 16] (by decide +kernel) (by decide +kernel)
set_option maxRecDepth 20000 in
theorem gX0_leastLoaded_X0_loadGap : GoodIn wsX0_leastLoaded (wsV RX0 67 RX0 yX0_loadGap wsX0_loadGap) := goodIn_app (goodIn_of _ (by decide +kernel)) ggX0_leastLoaded_X0_loadGap
theorem dX0_leastLoaded_0 : decode cX0_leastLoaded 0 = .ok (.iconst 0, 1) := by decide +kernel
theorem dX0_leastLoaded_1 : decode cX0_leastLoaded 1 = .ok (.istore_n 1, 1) := by decide +kernel
theorem dX0_leastLoaded_2 : decode cX0_leastLoaded 2 = .ok (.iconst 1, 1) := by decide +kernel
theorem dX0_leastLoaded_3 : decode cX0_leastLoaded 3 = .ok (.istore_n 2, 1) := by decide +kernel
theorem dX0_leastLoaded_4 : decode cX0_leastLoaded 4 = .ok (.iload_n 2, 1) := by decide +kernel
theorem dX0_leastLoaded_5 : decode cX0_leastLoaded 5 = .ok (.bipush 8, 2) := by decide +kernel
theorem dX0_leastLoaded_7 : decode cX0_leastLoaded 7 = .ok (.if_icmp .ge 22, 3) := by decide +kernel
theorem dX0_leastLoaded_10 : decode cX0_leastLoaded 10 = .ok (.aload_n 0, 1) := by decide +kernel
theorem dX0_leastLoaded_11 : decode cX0_leastLoaded 11 = .ok (.iload_n 2, 1) := by decide +kernel
theorem dX0_leastLoaded_12 : decode cX0_leastLoaded 12 = .ok (.iload_n 1, 1) := by decide +kernel
theorem dX0_leastLoaded_13 : decode cX0_leastLoaded 13 = .ok (.invokevirtual 67, 3) := by decide +kernel
theorem dX0_leastLoaded_16 : decode cX0_leastLoaded 16 = .ok (.lconst 0, 1) := by decide +kernel
theorem dX0_leastLoaded_17 : decode cX0_leastLoaded 17 = .ok (.lcmp, 1) := by decide +kernel
theorem dX0_leastLoaded_18 : decode cX0_leastLoaded 18 = .ok (.ifCond .ge 5, 3) := by decide +kernel
theorem dX0_leastLoaded_21 : decode cX0_leastLoaded 21 = .ok (.iload_n 2, 1) := by decide +kernel
theorem dX0_leastLoaded_22 : decode cX0_leastLoaded 22 = .ok (.istore_n 1, 1) := by decide +kernel
theorem dX0_leastLoaded_23 : decode cX0_leastLoaded 23 = .ok (.iinc 2 1, 3) := by decide +kernel
theorem dX0_leastLoaded_26 : decode cX0_leastLoaded 26 = .ok (.goto (-22), 3) := by decide +kernel
theorem dX0_leastLoaded_29 : decode cX0_leastLoaded 29 = .ok (.iload_n 1, 1) := by decide +kernel
theorem dX0_leastLoaded_30 : decode cX0_leastLoaded 30 = .ok (.ireturn, 1) := by decide +kernel
set_option maxRecDepth 20000 in
theorem ggX0_isUnevenAtMost_X0_mostLoaded : GoodIn wsX0_isUnevenAtMost wsX0_mostLoaded := goodIn_r _ [6, 7, 8, 9, 5, 10, 11, 1, 16, 17, 18, 19, 20, 21, 22, 23, 24] (by decide +kernel) (by decide +kernel)
set_option maxRecDepth 20000 in
theorem gX0_isUnevenAtMost_X0_mostLoaded : GoodIn wsX0_isUnevenAtMost (wsV RX0 71 RX0 yX0_mostLoaded wsX0_mostLoaded) := goodIn_app (goodIn_of _ (by decide +kernel)) ggX0_isUnevenAtMost_X0_mostLoaded
set_option maxRecDepth 20000 in
theorem ggX0_isUnevenAtMost_X0_leastLoaded : GoodIn wsX0_isUnevenAtMost wsX0_leastLoaded := goodIn_r _ [15, 7, 8, 9, 5, 10, 11, 1, 16, 17, 18, 19, 20, 21, 22, 23, 24] (by decide +kernel) (by decide +kernel)
set_option maxRecDepth 20000 in
theorem gX0_isUnevenAtMost_X0_leastLoaded : GoodIn wsX0_isUnevenAtMost (wsV RX0 75 RX0 yX0_leastLoaded wsX0_leastLoaded) := goodIn_app (goodIn_of _ (by decide +kernel)) ggX0_isUnevenAtMost_X0_leastLoaded
set_option maxRecDepth 20000 in
theorem ggX0_isUnevenAtMost_X0_loadGap : GoodIn wsX0_isUnevenAtMost wsX0_loadGap := goodIn_r _ [10, 11, 1, 16, 17, 18, 19, 20, 21, 22, 23, 24] (by decide +kernel) (by decide +kernel)
set_option maxRecDepth 20000 in
theorem gX0_isUnevenAtMost_X0_loadGap : GoodIn wsX0_isUnevenAtMost (wsV RX0 67 RX0 yX0_loadGap wsX0_loadGap) := goodIn_app (goodIn_of _ (by decide +kernel)) ggX0_isUnevenAtMost_X0_loadGap
theorem dX0_isUnevenAtMost_0 : decode cX0_isUnevenAtMost 0 = .ok (.aload_n 0, 1) := by decide +kernel
theorem dX0_isUnevenAtMost_1 : decode cX0_isUnevenAtMost 1 = .ok (.invokevirtual 71, 3) := by decide +kernel
theorem dX0_isUnevenAtMost_4 : decode cX0_isUnevenAtMost 4 = .ok (.istore_n 2, 1) := by decide +kernel
theorem dX0_isUnevenAtMost_5 : decode cX0_isUnevenAtMost 5 = .ok (.aload_n 0, 1) := by decide +kernel
theorem dX0_isUnevenAtMost_6 : decode cX0_isUnevenAtMost 6 = .ok (.invokevirtual 75, 3) := by decide +kernel
theorem dX0_isUnevenAtMost_9 : decode cX0_isUnevenAtMost 9 = .ok (.istore_n 3, 1) := by decide +kernel
theorem dX0_isUnevenAtMost_10 : decode cX0_isUnevenAtMost 10 = .ok (.aload_n 0, 1) := by decide +kernel
theorem dX0_isUnevenAtMost_11 : decode cX0_isUnevenAtMost 11 = .ok (.iload_n 2, 1) := by decide +kernel
theorem dX0_isUnevenAtMost_12 : decode cX0_isUnevenAtMost 12 = .ok (.iload_n 3, 1) := by decide +kernel
theorem dX0_isUnevenAtMost_13 : decode cX0_isUnevenAtMost 13 = .ok (.invokevirtual 67, 3) := by decide +kernel
theorem dX0_isUnevenAtMost_16 : decode cX0_isUnevenAtMost 16 = .ok (.iload_n 1, 1) := by decide +kernel
theorem dX0_isUnevenAtMost_17 : decode cX0_isUnevenAtMost 17 = .ok (.i2l, 1) := by decide +kernel
theorem dX0_isUnevenAtMost_18 : decode cX0_isUnevenAtMost 18 = .ok (.aload_n 0, 1) := by decide +kernel
theorem dX0_isUnevenAtMost_19 : decode cX0_isUnevenAtMost 19 = .ok (.getfield 9, 3) := by decide +kernel
theorem dX0_isUnevenAtMost_22 : decode cX0_isUnevenAtMost 22 = .ok (.iload_n 2, 1) := by decide +kernel
theorem dX0_isUnevenAtMost_23 : decode cX0_isUnevenAtMost 23 = .ok (.iaload, 1) := by decide +kernel
theorem dX0_isUnevenAtMost_24 : decode cX0_isUnevenAtMost 24 = .ok (.i2l, 1) := by decide +kernel
theorem dX0_isUnevenAtMost_25 : decode cX0_isUnevenAtMost 25 = .ok (.lmul, 1) := by decide +kernel
theorem dX0_isUnevenAtMost_26 : decode cX0_isUnevenAtMost 26 = .ok (.aload_n 0, 1) := by decide +kernel
theorem dX0_isUnevenAtMost_27 : decode cX0_isUnevenAtMost 27 = .ok (.getfield 9, 3) := by decide +kernel
theorem dX0_isUnevenAtMost_30 : decode cX0_isUnevenAtMost 30 = .ok (.iload_n 3, 1) := by decide +kernel
theorem dX0_isUnevenAtMost_31 : decode cX0_isUnevenAtMost 31 = .ok (.iaload, 1) := by decide +kernel
theorem dX0_isUnevenAtMost_32 : decode cX0_isUnevenAtMost 32 = .ok (.i2l, 1) := by decide +kernel
theorem dX0_isUnevenAtMost_33 : decode cX0_isUnevenAtMost 33 = .ok (.lmul, 1) := by decide +kernel
theorem dX0_isUnevenAtMost_34 : decode cX0_isUnevenAtMost 34 = .ok (.lcmp, 1) := by decide +kernel
theorem dX0_isUnevenAtMost_35 : decode cX0_isUnevenAtMost 35 = .ok (.ifCond .gt 7, 3) := by decide +kernel
theorem dX0_isUnevenAtMost_38 : decode cX0_isUnevenAtMost 38 = .ok (.iconst 1, 1) := by decide +kernel
theorem dX0_isUnevenAtMost_39 : decode cX0_isUnevenAtMost 39 = .ok (.goto 4, 3) := by decide +kernel
theorem dX0_isUnevenAtMost_42 : decode cX0_isUnevenAtMost 42 = .ok (.iconst 0, 1) := by decide +kernel
theorem dX0_isUnevenAtMost_43 : decode cX0_isUnevenAtMost 43 = .ok (.ireturn, 1) := by decide +kernel
set_option maxRecDepth 20000 in
theorem ggX0_isAlike_X0_rotorLeftOver : GoodIn wsX0_isAlike wsX0_rotorLeftOver := goodIn_r _ [8, 9, 10, 11, 12, 7, 13, 14, 24, 25, 26, 27, 28, 29, 30, 31, 32] (by decide +kernel) (by decide +kernel)
set_option maxRecDepth 20000 in
theorem gX0_isAlike_X0_rotorLeftOver : GoodIn wsX0_isAlike (wsV RX0 78 RX0 yX0_rotorLeftOver wsX0_rotorLeftOver) := goodIn_app (goodIn_of _ (by decide +kernel)) ggX0_isAlike_X0_rotorLeftOver
set_option maxRecDepth 20000 in
theorem ggX0_isAlike_X0_colours : GoodIn wsX0_isAlike wsX0_colours := goodIn_r _ [18, 19, 20, 21, 22, 23, 24, 25, 26, 27, 28, 29, 30, 31, 32] (by decide +kernel) (by decide +kernel)
set_option maxRecDepth 20000 in
theorem gX0_isAlike_X0_colours : GoodIn wsX0_isAlike (wsV RX0 81 RX0 yX0_colours wsX0_colours) := goodIn_app (goodIn_of _ (by decide +kernel)) ggX0_isAlike_X0_colours
theorem dX0_isAlike_0 : decode cX0_isAlike 0 = .ok (.iconst 0, 1) := by decide +kernel
theorem dX0_isAlike_1 : decode cX0_isAlike 1 = .ok (.istore_n 2, 1) := by decide +kernel
theorem dX0_isAlike_2 : decode cX0_isAlike 2 = .ok (.iload_n 2, 1) := by decide +kernel
theorem dX0_isAlike_3 : decode cX0_isAlike 3 = .ok (.bipush 8, 2) := by decide +kernel
theorem dX0_isAlike_5 : decode cX0_isAlike 5 = .ok (.if_icmp .ge 39, 3) := by decide +kernel
theorem dX0_isAlike_8 : decode cX0_isAlike 8 = .ok (.aload_n 0, 1) := by decide +kernel
theorem dX0_isAlike_9 : decode cX0_isAlike 9 = .ok (.getfield 15, 3) := by decide +kernel
theorem dX0_isAlike_12 : decode cX0_isAlike 12 = .ok (.iload_n 2, 1) := by decide +kernel
theorem dX0_isAlike_13 : decode cX0_isAlike 13 = .ok (.iaload, 1) := by decide +kernel
theorem dX0_isAlike_14 : decode cX0_isAlike 14 = .ok (.aload_n 1, 1) := by decide +kernel
theorem dX0_isAlike_15 : decode cX0_isAlike 15 = .ok (.getfield 15, 3) := by decide +kernel
theorem dX0_isAlike_18 : decode cX0_isAlike 18 = .ok (.iload_n 2, 1) := by decide +kernel
theorem dX0_isAlike_19 : decode cX0_isAlike 19 = .ok (.iaload, 1) := by decide +kernel
theorem dX0_isAlike_20 : decode cX0_isAlike 20 = .ok (.if_icmp .ne 16, 3) := by decide +kernel
theorem dX0_isAlike_23 : decode cX0_isAlike 23 = .ok (.aload_n 0, 1) := by decide +kernel
theorem dX0_isAlike_24 : decode cX0_isAlike 24 = .ok (.iload_n 2, 1) := by decide +kernel
theorem dX0_isAlike_25 : decode cX0_isAlike 25 = .ok (.invokevirtual 78, 3) := by decide +kernel
theorem dX0_isAlike_28 : decode cX0_isAlike 28 = .ok (.aload_n 1, 1) := by decide +kernel
theorem dX0_isAlike_29 : decode cX0_isAlike 29 = .ok (.iload_n 2, 1) := by decide +kernel
theorem dX0_isAlike_30 : decode cX0_isAlike 30 = .ok (.invokevirtual 78, 3) := by decide +kernel
theorem dX0_isAlike_33 : decode cX0_isAlike 33 = .ok (.if_icmp .eq 5, 3) := by decide +kernel
theorem dX0_isAlike_36 : decode cX0_isAlike 36 = .ok (.iconst 0, 1) := by decide +kernel
theorem dX0_isAlike_37 : decode cX0_isAlike 37 = .ok (.ireturn, 1) := by decide +kernel
theorem dX0_isAlike_38 : decode cX0_isAlike 38 = .ok (.iinc 2 1, 3) := by decide +kernel
theorem dX0_isAlike_41 : decode cX0_isAlike 41 = .ok (.goto (-39), 3) := by decide +kernel
theorem dX0_isAlike_44 : decode cX0_isAlike 44 = .ok (.iconst 0, 1) := by decide +kernel
theorem dX0_isAlike_45 : decode cX0_isAlike 45 = .ok (.istore_n 2, 1) := by decide +kernel
theorem dX0_isAlike_46 : decode cX0_isAlike 46 = .ok (.iload_n 2, 1) := by decide +kernel
theorem dX0_isAlike_47 : decode cX0_isAlike 47 = .ok (.bipush 64, 2) := by decide +kernel
theorem dX0_isAlike_49 : decode cX0_isAlike 49 = .ok (.if_icmp .ge 26, 3) := by decide +kernel
theorem dX0_isAlike_52 : decode cX0_isAlike 52 = .ok (.aload_n 0, 1) := by decide +kernel
theorem dX0_isAlike_53 : decode cX0_isAlike 53 = .ok (.getfield 27, 3) := by decide +kernel
theorem dX0_isAlike_56 : decode cX0_isAlike 56 = .ok (.iload_n 2, 1) := by decide +kernel
theorem dX0_isAlike_57 : decode cX0_isAlike 57 = .ok (.iaload, 1) := by decide +kernel
theorem dX0_isAlike_58 : decode cX0_isAlike 58 = .ok (.aload_n 1, 1) := by decide +kernel
theorem dX0_isAlike_59 : decode cX0_isAlike 59 = .ok (.getfield 27, 3) := by decide +kernel
theorem dX0_isAlike_62 : decode cX0_isAlike 62 = .ok (.iload_n 2, 1) := by decide +kernel
theorem dX0_isAlike_63 : decode cX0_isAlike 63 = .ok (.iaload, 1) := by decide +kernel
theorem dX0_isAlike_64 : decode cX0_isAlike 64 = .ok (.if_icmp .eq 5, 3) := by decide +kernel
theorem dX0_isAlike_67 : decode cX0_isAlike 67 = .ok (.iconst 0, 1) := by decide +kernel
theorem dX0_isAlike_68 : decode cX0_isAlike 68 = .ok (.ireturn, 1) := by decide +kernel
theorem dX0_isAlike_69 : decode cX0_isAlike 69 = .ok (.iinc 2 1, 3) := by decide +kernel
theorem dX0_isAlike_72 : decode cX0_isAlike 72 = .ok (.goto (-26), 3) := by decide +kernel
theorem dX0_isAlike_75 : decode cX0_isAlike 75 = .ok (.aload_n 0, 1) := by decide +kernel
theorem dX0_isAlike_76 : decode cX0_isAlike 76 = .ok (.getfield 37, 3) := by decide +kernel
theorem dX0_isAlike_79 : decode cX0_isAlike 79 = .ok (.aload_n 0, 1) := by decide +kernel
theorem dX0_isAlike_80 : decode cX0_isAlike 80 = .ok (.invokevirtual 81, 3) := by decide +kernel
theorem dX0_isAlike_83 : decode cX0_isAlike 83 = .ok (.irem, 1) := by decide +kernel
theorem dX0_isAlike_84 : decode cX0_isAlike 84 = .ok (.aload_n 1, 1) := by decide +kernel
theorem dX0_isAlike_85 : decode cX0_isAlike 85 = .ok (.getfield 37, 3) := by decide +kernel
theorem dX0_isAlike_88 : decode cX0_isAlike 88 = .ok (.aload_n 1, 1) := by decide +kernel
theorem dX0_isAlike_89 : decode cX0_isAlike 89 = .ok (.invokevirtual 81, 3) := by decide +kernel
theorem dX0_isAlike_92 : decode cX0_isAlike 92 = .ok (.irem, 1) := by decide +kernel
theorem dX0_isAlike_93 : decode cX0_isAlike 93 = .ok (.if_icmp .ne 7, 3) := by decide +kernel
theorem dX0_isAlike_96 : decode cX0_isAlike 96 = .ok (.iconst 1, 1) := by decide +kernel
theorem dX0_isAlike_97 : decode cX0_isAlike 97 = .ok (.goto 4, 3) := by decide +kernel
theorem dX0_isAlike_100 : decode cX0_isAlike 100 = .ok (.iconst 0, 1) := by decide +kernel
theorem dX0_isAlike_101 : decode cX0_isAlike 101 = .ok (.ireturn, 1) := by decide +kernel
set_option maxRecDepth 20000 in
theorem ggX0_goOn_X0_flow : GoodIn wsX0_goOn wsX0_flow := goodIn_r _ [6, 7, 8, 9, 5, 10, 11, 12, 13, 14, 15, 16, 17, 18, 19, 20, 21, 22, 23, 24, 25, 26, 27, 28, 29, 30, 31, 32, 33, 34, 35, 36, 37, 38, 39, 40, 41, 42, 72, 73, 74, 75, 76, 77, 78, 79, 80] (by decide +kernel) (by decide +kernel)
set_option maxRecDepth 20000 in
theorem gX0_goOn_X0_flow : GoodIn wsX0_goOn (wsV RX0 84 RX0 yX0_flow wsX0_flow) := goodIn_app (goodIn_of _ (by decide +kernel)) ggX0_goOn_X0_flow
set_option maxRecDepth 20000 in
theorem ggX0_goOn_X0_exchange : GoodIn wsX0_goOn wsX0_exchange := goodIn_r _ [46, 1, 24, 47, 48, 49, 5, 50, 11, 12, 13, 14, 20, 21, 22, 23, 25, 26, 27, 51, 52, 53, 54, 33, 34, 36, 37, 38, 55, 56, 57, 58, 72, 73, 74, 75, 76, 77, 78, 79, 80] (by decide +kernel) (by decide +kernel)
set_option maxRecDepth 20000 in
theorem gX0_goOn_X0_exchange : GoodIn wsX0_goOn (wsV RX0 87 RX0 yX0_exchange wsX0_exchange) := goodIn_app (goodIn_of _ (by decide +kernel)) ggX0_goOn_X0_exchange
set_option maxRecDepth 20000 in
theorem ggX0_goOn_X0_deal : GoodIn wsX0_goOn wsX0_deal := goodIn_r _ [62, 33, 63, 64, 65, 5, 66, 35, 67, 15, 16, 17, 18, 19, 68, 69, 70, 71, 20, 21, 22, 23, 24, 25, 26, 27, 39, 40, 41, 42, 72, 73, 74, 75, 76, 77, 78, 79, 80] (by decide +kernel) (by decide +kernel)
set_option maxRecDepth 20000 in
theorem gX0_goOn_X0_deal : GoodIn wsX0_goOn (wsV RX0 90 RX0 yX0_deal wsX0_deal) := goodIn_app (goodIn_of _ (by decide +kernel)) ggX0_goOn_X0_deal
theorem dX0_goOn_0 : decode cX0_goOn 0 = .ok (.iconst 0, 1) := by decide +kernel
theorem dX0_goOn_1 : decode cX0_goOn 1 = .ok (.istore_n 3, 1) := by decide +kernel
theorem dX0_goOn_2 : decode cX0_goOn 2 = .ok (.iconst 0, 1) := by decide +kernel
theorem dX0_goOn_3 : decode cX0_goOn 3 = .ok (.istore 4, 2) := by decide +kernel
theorem dX0_goOn_5 : decode cX0_goOn 5 = .ok (.iload 4, 2) := by decide +kernel
theorem dX0_goOn_7 : decode cX0_goOn 7 = .ok (.iload_n 2, 1) := by decide +kernel
theorem dX0_goOn_8 : decode cX0_goOn 8 = .ok (.if_icmp .ge 49, 3) := by decide +kernel
theorem dX0_goOn_11 : decode cX0_goOn 11 = .ok (.iload_n 3, 1) := by decide +kernel
theorem dX0_goOn_12 : decode cX0_goOn 12 = .ok (.iload_n 1, 1) := by decide +kernel
theorem dX0_goOn_13 : decode cX0_goOn 13 = .ok (.ifCond .ne 10, 3) := by decide +kernel
theorem dX0_goOn_16 : decode cX0_goOn 16 = .ok (.aload_n 0, 1) := by decide +kernel
theorem dX0_goOn_17 : decode cX0_goOn 17 = .ok (.invokevirtual 84, 3) := by decide +kernel
theorem dX0_goOn_20 : decode cX0_goOn 20 = .ok (.goto 19, 3) := by decide +kernel
theorem dX0_goOn_23 : decode cX0_goOn 23 = .ok (.iload_n 1, 1) := by decide +kernel
theorem dX0_goOn_24 : decode cX0_goOn 24 = .ok (.iconst 1, 1) := by decide +kernel
theorem dX0_goOn_25 : decode cX0_goOn 25 = .ok (.if_icmp .ne 10, 3) := by decide +kernel
theorem dX0_goOn_28 : decode cX0_goOn 28 = .ok (.aload_n 0, 1) := by decide +kernel
theorem dX0_goOn_29 : decode cX0_goOn 29 = .ok (.invokevirtual 87, 3) := by decide +kernel
theorem dX0_goOn_32 : decode cX0_goOn 32 = .ok (.goto 7, 3) := by decide +kernel
theorem dX0_goOn_35 : decode cX0_goOn 35 = .ok (.aload_n 0, 1) := by decide +kernel
theorem dX0_goOn_36 : decode cX0_goOn 36 = .ok (.invokevirtual 90, 3) := by decide +kernel
theorem dX0_goOn_39 : decode cX0_goOn 39 = .ok (.iadd, 1) := by decide +kernel
theorem dX0_goOn_40 : decode cX0_goOn 40 = .ok (.istore_n 3, 1) := by decide +kernel
theorem dX0_goOn_41 : decode cX0_goOn 41 = .ok (.aload_n 0, 1) := by decide +kernel
theorem dX0_goOn_42 : decode cX0_goOn 42 = .ok (.dup, 1) := by decide +kernel
theorem dX0_goOn_43 : decode cX0_goOn 43 = .ok (.getfield 37, 3) := by decide +kernel
theorem dX0_goOn_46 : decode cX0_goOn 46 = .ok (.iconst 1, 1) := by decide +kernel
theorem dX0_goOn_47 : decode cX0_goOn 47 = .ok (.iadd, 1) := by decide +kernel
theorem dX0_goOn_48 : decode cX0_goOn 48 = .ok (.putfield 37, 3) := by decide +kernel
theorem dX0_goOn_51 : decode cX0_goOn 51 = .ok (.iinc 4 1, 3) := by decide +kernel
theorem dX0_goOn_54 : decode cX0_goOn 54 = .ok (.goto (-49), 3) := by decide +kernel
theorem dX0_goOn_57 : decode cX0_goOn 57 = .ok (.iload_n 3, 1) := by decide +kernel
theorem dX0_goOn_58 : decode cX0_goOn 58 = .ok (.ireturn, 1) := by decide +kernel
set_option maxRecDepth 20000 in
theorem ggX0_flow_X0_measure : GoodIn wsX0_flow wsX0_measure := goodIn_r _ [5, 6, 7, 8, 9, 10, 11, 12, 4, 13, 14, 38, 39, 40, 41, 42, 43, 44, 45, 46] (by decide +kernel) (by decide +kernel)
set_option maxRecDepth 20000 in
theorem gX0_flow_X0_measure : GoodIn wsX0_flow (wsV RX0 93 RX0 yX0_measure wsX0_measure) := goodIn_app (goodIn_of _ (by decide +kernel)) ggX0_flow_X0_measure
set_option maxRecDepth 20000 in
theorem ggX0_flow_X0_joins : GoodIn wsX0_flow wsX0_joins := goodIn_r _ [18, 19, 20, 21, 22, 38, 39, 40, 41, 42, 43, 44, 45, 46] (by decide +kernel) (by decide +kernel)
set_option maxRecDepth 20000 in
theorem gX0_flow_X0_joins : GoodIn wsX0_flow (wsV RX0 54 RX0 yX0_joins wsX0_joins) := goodIn_app (goodIn_of _ (by decide +kernel)) ggX0_flow_X0_joins
set_option maxRecDepth 20000 in
theorem ggX0_flow_X0_flowAlong : GoodIn wsX0_flow wsX0_flowAlong := goodIn_r _ [26, 27, 28, 29, 30, 31, 32, 8, 33, 20, 21, 22, 38, 39, 40, 41, 42, 43, 44, 45, 46] (by decide +kernel) (by decide +kernel)
set_option maxRecDepth 20000 in
theorem gX0_flow_X0_flowAlong : GoodIn wsX0_flow (wsV RX0 96 RX0 yX0_flowAlong wsX0_flowAlong) := goodIn_app (goodIn_of _ (by decide +kernel)) ggX0_flow_X0_flowAlong
set_option maxRecDepth 20000 in
theorem ggX0_flow_X0_settle : GoodIn wsX0_flow wsX0_settle := goodIn_r _ [37, 28, 30, 38, 39, 40, 41, 42, 43, 44, 45, 46] (by decide +kernel) (by decide +kernel)
set_option maxRecDepth 20000 in
theorem gX0_flow_X0_settle : GoodIn wsX0_flow (wsV RX0 100 RX0 yX0_settle wsX0_settle) := goodIn_app (goodIn_of _ (by decide +kernel)) ggX0_flow_X0_settle
theorem dX0_flow_0 : decode cX0_flow 0 = .ok (.aload_n 0, 1) := by decide +kernel
theorem dX0_flow_1 : decode cX0_flow 1 = .ok (.invokevirtual 93, 3) := by decide +kernel
theorem dX0_flow_4 : decode cX0_flow 4 = .ok (.istore_n 1, 1) := by decide +kernel
theorem dX0_flow_5 : decode cX0_flow 5 = .ok (.iconst 0, 1) := by decide +kernel
theorem dX0_flow_6 : decode cX0_flow 6 = .ok (.istore_n 2, 1) := by decide +kernel
theorem dX0_flow_7 : decode cX0_flow 7 = .ok (.iconst 0, 1) := by decide +kernel
theorem dX0_flow_8 : decode cX0_flow 8 = .ok (.istore_n 3, 1) := by decide +kernel
theorem dX0_flow_9 : decode cX0_flow 9 = .ok (.iload_n 3, 1) := by decide +kernel
theorem dX0_flow_10 : decode cX0_flow 10 = .ok (.bipush 8, 2) := by decide +kernel
theorem dX0_flow_12 : decode cX0_flow 12 = .ok (.if_icmp .ge 48, 3) := by decide +kernel
theorem dX0_flow_15 : decode cX0_flow 15 = .ok (.iload_n 3, 1) := by decide +kernel
theorem dX0_flow_16 : decode cX0_flow 16 = .ok (.iconst 1, 1) := by decide +kernel
theorem dX0_flow_17 : decode cX0_flow 17 = .ok (.iadd, 1) := by decide +kernel
theorem dX0_flow_18 : decode cX0_flow 18 = .ok (.istore 4, 2) := by decide +kernel
theorem dX0_flow_20 : decode cX0_flow 20 = .ok (.iload 4, 2) := by decide +kernel
theorem dX0_flow_22 : decode cX0_flow 22 = .ok (.bipush 8, 2) := by decide +kernel
theorem dX0_flow_24 : decode cX0_flow 24 = .ok (.if_icmp .ge 30, 3) := by decide +kernel
theorem dX0_flow_27 : decode cX0_flow 27 = .ok (.aload_n 0, 1) := by decide +kernel
theorem dX0_flow_28 : decode cX0_flow 28 = .ok (.iload_n 3, 1) := by decide +kernel
theorem dX0_flow_29 : decode cX0_flow 29 = .ok (.iload 4, 2) := by decide +kernel
theorem dX0_flow_31 : decode cX0_flow 31 = .ok (.invokevirtual 54, 3) := by decide +kernel
theorem dX0_flow_34 : decode cX0_flow 34 = .ok (.ifCond .eq 14, 3) := by decide +kernel
theorem dX0_flow_37 : decode cX0_flow 37 = .ok (.iload_n 2, 1) := by decide +kernel
theorem dX0_flow_38 : decode cX0_flow 38 = .ok (.aload_n 0, 1) := by decide +kernel
theorem dX0_flow_39 : decode cX0_flow 39 = .ok (.iload_n 3, 1) := by decide +kernel
theorem dX0_flow_40 : decode cX0_flow 40 = .ok (.iload 4, 2) := by decide +kernel
theorem dX0_flow_42 : decode cX0_flow 42 = .ok (.iload_n 1, 1) := by decide +kernel
theorem dX0_flow_43 : decode cX0_flow 43 = .ok (.invokevirtual 96, 3) := by decide +kernel
theorem dX0_flow_46 : decode cX0_flow 46 = .ok (.iadd, 1) := by decide +kernel
theorem dX0_flow_47 : decode cX0_flow 47 = .ok (.istore_n 2, 1) := by decide +kernel
theorem dX0_flow_48 : decode cX0_flow 48 = .ok (.iinc 4 1, 3) := by decide +kernel
theorem dX0_flow_51 : decode cX0_flow 51 = .ok (.goto (-31), 3) := by decide +kernel
theorem dX0_flow_54 : decode cX0_flow 54 = .ok (.iinc 3 1, 3) := by decide +kernel
theorem dX0_flow_57 : decode cX0_flow 57 = .ok (.goto (-48), 3) := by decide +kernel
theorem dX0_flow_60 : decode cX0_flow 60 = .ok (.aload_n 0, 1) := by decide +kernel
theorem dX0_flow_61 : decode cX0_flow 61 = .ok (.invokevirtual 100, 3) := by decide +kernel
theorem dX0_flow_64 : decode cX0_flow 64 = .ok (.iload_n 2, 1) := by decide +kernel
theorem dX0_flow_65 : decode cX0_flow 65 = .ok (.ireturn, 1) := by decide +kernel
set_option maxRecDepth 20000 in
theorem ggX0_flowAlong_X2_spot : GoodIn wsX0_flowAlong wsX2_spot := goodIn_r _ [11] (by decide +kernel) (by decide +kernel)
set_option maxRecDepth 20000 in
theorem gX0_flowAlong_X2_spot_n46 : GoodIn wsX0_flowAlong (wsX2_spot) := ggX0_flowAlong_X2_spot
theorem dX0_flowAlong_0 : decode cX0_flowAlong 0 = .ok (.iload_n 1, 1) := by decide +kernel
theorem dX0_flowAlong_1 : decode cX0_flowAlong 1 = .ok (.iload_n 2, 1) := by decide +kernel
theorem dX0_flowAlong_2 : decode cX0_flowAlong 2 = .ok (.invokestatic 46, 3) := by decide +kernel
theorem dX0_flowAlong_5 : decode cX0_flowAlong 5 = .ok (.istore 4, 2) := by decide +kernel
theorem dX0_flowAlong_7 : decode cX0_flowAlong 7 = .ok (.aload_n 0, 1) := by decide +kernel
theorem dX0_flowAlong_8 : decode cX0_flowAlong 8 = .ok (.getfield 27, 3) := by decide +kernel
theorem dX0_flowAlong_11 : decode cX0_flowAlong 11 = .ok (.iload 4, 2) := by decide +kernel
theorem dX0_flowAlong_13 : decode cX0_flowAlong 13 = .ok (.iaload, 1) := by decide +kernel
theorem dX0_flowAlong_14 : decode cX0_flowAlong 14 = .ok (.aload_n 0, 1) := by decide +kernel
theorem dX0_flowAlong_15 : decode cX0_flowAlong 15 = .ok (.getfield 15, 3) := by decide +kernel
theorem dX0_flowAlong_18 : decode cX0_flowAlong 18 = .ok (.iload_n 1, 1) := by decide +kernel
theorem dX0_flowAlong_19 : decode cX0_flowAlong 19 = .ok (.iaload, 1) := by decide +kernel
theorem dX0_flowAlong_20 : decode cX0_flowAlong 20 = .ok (.aload_n 0, 1) := by decide +kernel
theorem dX0_flowAlong_21 : decode cX0_flowAlong 21 = .ok (.getfield 9, 3) := by decide +kernel
theorem dX0_flowAlong_24 : decode cX0_flowAlong 24 = .ok (.iload_n 2, 1) := by decide +kernel
theorem dX0_flowAlong_25 : decode cX0_flowAlong 25 = .ok (.iaload, 1) := by decide +kernel
theorem dX0_flowAlong_26 : decode cX0_flowAlong 26 = .ok (.imul, 1) := by decide +kernel
theorem dX0_flowAlong_27 : decode cX0_flowAlong 27 = .ok (.iadd, 1) := by decide +kernel
theorem dX0_flowAlong_28 : decode cX0_flowAlong 28 = .ok (.aload_n 0, 1) := by decide +kernel
theorem dX0_flowAlong_29 : decode cX0_flowAlong 29 = .ok (.getfield 15, 3) := by decide +kernel
theorem dX0_flowAlong_32 : decode cX0_flowAlong 32 = .ok (.iload_n 2, 1) := by decide +kernel
theorem dX0_flowAlong_33 : decode cX0_flowAlong 33 = .ok (.iaload, 1) := by decide +kernel
theorem dX0_flowAlong_34 : decode cX0_flowAlong 34 = .ok (.aload_n 0, 1) := by decide +kernel
theorem dX0_flowAlong_35 : decode cX0_flowAlong 35 = .ok (.getfield 9, 3) := by decide +kernel
theorem dX0_flowAlong_38 : decode cX0_flowAlong 38 = .ok (.iload_n 1, 1) := by decide +kernel
theorem dX0_flowAlong_39 : decode cX0_flowAlong 39 = .ok (.iaload, 1) := by decide +kernel
theorem dX0_flowAlong_40 : decode cX0_flowAlong 40 = .ok (.imul, 1) := by decide +kernel
theorem dX0_flowAlong_41 : decode cX0_flowAlong 41 = .ok (.isub, 1) := by decide +kernel
theorem dX0_flowAlong_42 : decode cX0_flowAlong 42 = .ok (.istore 5, 2) := by decide +kernel
theorem dX0_flowAlong_44 : decode cX0_flowAlong 44 = .ok (.iload_n 3, 1) := by decide +kernel
theorem dX0_flowAlong_45 : decode cX0_flowAlong 45 = .ok (.ifCond .le 10, 3) := by decide +kernel
theorem dX0_flowAlong_48 : decode cX0_flowAlong 48 = .ok (.iload 5, 2) := by decide +kernel
theorem dX0_flowAlong_50 : decode cX0_flowAlong 50 = .ok (.iload_n 3, 1) := by decide +kernel
theorem dX0_flowAlong_51 : decode cX0_flowAlong 51 = .ok (.idiv, 1) := by decide +kernel
theorem dX0_flowAlong_52 : decode cX0_flowAlong 52 = .ok (.goto 4, 3) := by decide +kernel
theorem dX0_flowAlong_55 : decode cX0_flowAlong 55 = .ok (.iconst 0, 1) := by decide +kernel
theorem dX0_flowAlong_56 : decode cX0_flowAlong 56 = .ok (.istore 6, 2) := by decide +kernel
theorem dX0_flowAlong_58 : decode cX0_flowAlong 58 = .ok (.aload_n 0, 1) := by decide +kernel
theorem dX0_flowAlong_59 : decode cX0_flowAlong 59 = .ok (.getfield 27, 3) := by decide +kernel
theorem dX0_flowAlong_62 : decode cX0_flowAlong 62 = .ok (.iload 4, 2) := by decide +kernel
theorem dX0_flowAlong_64 : decode cX0_flowAlong 64 = .ok (.iload 5, 2) := by decide +kernel
theorem dX0_flowAlong_66 : decode cX0_flowAlong 66 = .ok (.iload_n 3, 1) := by decide +kernel
theorem dX0_flowAlong_67 : decode cX0_flowAlong 67 = .ok (.iload 6, 2) := by decide +kernel
theorem dX0_flowAlong_69 : decode cX0_flowAlong 69 = .ok (.imul, 1) := by decide +kernel
theorem dX0_flowAlong_70 : decode cX0_flowAlong 70 = .ok (.isub, 1) := by decide +kernel
theorem dX0_flowAlong_71 : decode cX0_flowAlong 71 = .ok (.iastore, 1) := by decide +kernel
theorem dX0_flowAlong_72 : decode cX0_flowAlong 72 = .ok (.aload_n 0, 1) := by decide +kernel
theorem dX0_flowAlong_73 : decode cX0_flowAlong 73 = .ok (.getfield 30, 3) := by decide +kernel
theorem dX0_flowAlong_76 : decode cX0_flowAlong 76 = .ok (.iload_n 1, 1) := by decide +kernel
theorem dX0_flowAlong_77 : decode cX0_flowAlong 77 = .ok (.dup2, 1) := by decide +kernel
theorem dX0_flowAlong_78 : decode cX0_flowAlong 78 = .ok (.iaload, 1) := by decide +kernel
theorem dX0_flowAlong_79 : decode cX0_flowAlong 79 = .ok (.iload 6, 2) := by decide +kernel
theorem dX0_flowAlong_81 : decode cX0_flowAlong 81 = .ok (.isub, 1) := by decide +kernel
theorem dX0_flowAlong_82 : decode cX0_flowAlong 82 = .ok (.iastore, 1) := by decide +kernel
theorem dX0_flowAlong_83 : decode cX0_flowAlong 83 = .ok (.aload_n 0, 1) := by decide +kernel
theorem dX0_flowAlong_84 : decode cX0_flowAlong 84 = .ok (.getfield 30, 3) := by decide +kernel
theorem dX0_flowAlong_87 : decode cX0_flowAlong 87 = .ok (.iload_n 2, 1) := by decide +kernel
theorem dX0_flowAlong_88 : decode cX0_flowAlong 88 = .ok (.dup2, 1) := by decide +kernel
theorem dX0_flowAlong_89 : decode cX0_flowAlong 89 = .ok (.iaload, 1) := by decide +kernel
theorem dX0_flowAlong_90 : decode cX0_flowAlong 90 = .ok (.iload 6, 2) := by decide +kernel
theorem dX0_flowAlong_92 : decode cX0_flowAlong 92 = .ok (.iadd, 1) := by decide +kernel
theorem dX0_flowAlong_93 : decode cX0_flowAlong 93 = .ok (.iastore, 1) := by decide +kernel
theorem dX0_flowAlong_94 : decode cX0_flowAlong 94 = .ok (.iload 6, 2) := by decide +kernel
theorem dX0_flowAlong_96 : decode cX0_flowAlong 96 = .ok (.invokestatic 103, 3) := by decide +kernel
theorem dX0_flowAlong_99 : decode cX0_flowAlong 99 = .ok (.ireturn, 1) := by decide +kernel
set_option maxRecDepth 20000 in
theorem ggX0_exchange_X0_colours : GoodIn wsX0_exchange wsX0_colours := goodIn_r _ [7, 2, 8, 9, 10, 11, 32, 33, 34, 35, 36, 37, 38, 39, 40] (by decide +kernel) (by decide +kernel)
set_option maxRecDepth 20000 in
theorem gX0_exchange_X0_colours : GoodIn wsX0_exchange (wsV RX0 81 RX0 yX0_colours wsX0_colours) := goodIn_app (goodIn_of _ (by decide +kernel)) ggX0_exchange_X0_colours
set_option maxRecDepth 20000 in
theorem ggX0_exchange_X0_joins : GoodIn wsX0_exchange wsX0_joins := goodIn_r _ [15, 2, 16, 17, 18, 32, 33, 34, 35, 36, 37, 38, 39, 40] (by decide +kernel) (by decide +kernel)
set_option maxRecDepth 20000 in
theorem gX0_exchange_X0_joins : GoodIn wsX0_exchange (wsV RX0 54 RX0 yX0_joins wsX0_joins) := goodIn_app (goodIn_of _ (by decide +kernel)) ggX0_exchange_X0_joins
set_option maxRecDepth 20000 in
theorem ggX0_exchange_X2_spot : GoodIn wsX0_exchange wsX2_spot := goodIn_r _ [18] (by decide +kernel) (by decide +kernel)
set_option maxRecDepth 20000 in
theorem gX0_exchange_X2_spot_n46 : GoodIn wsX0_exchange (wsX2_spot) := ggX0_exchange_X2_spot
set_option maxRecDepth 20000 in
theorem ggX0_exchange_X0_exchangeAlong : GoodIn wsX0_exchange wsX0_exchangeAlong := goodIn_r _ [22, 23, 24, 8, 9, 10, 11, 25, 26, 27, 28, 29, 30, 31, 32, 33, 34, 35, 36, 37, 38, 39, 40] (by decide +kernel) (by decide +kernel)
set_option maxRecDepth 20000 in
theorem gX0_exchange_X0_exchangeAlong : GoodIn wsX0_exchange (wsV RX0 106 RX0 yX0_exchangeAlong wsX0_exchangeAlong) := goodIn_app (goodIn_of _ (by decide +kernel)) ggX0_exchange_X0_exchangeAlong
theorem dX0_exchange_0 : decode cX0_exchange 0 = .ok (.aload_n 0, 1) := by decide +kernel
theorem dX0_exchange_1 : decode cX0_exchange 1 = .ok (.getfield 37, 3) := by decide +kernel
theorem dX0_exchange_4 : decode cX0_exchange 4 = .ok (.aload_n 0, 1) := by decide +kernel
theorem dX0_exchange_5 : decode cX0_exchange 5 = .ok (.invokevirtual 81, 3) := by decide +kernel
theorem dX0_exchange_8 : decode cX0_exchange 8 = .ok (.irem, 1) := by decide +kernel
theorem dX0_exchange_9 : decode cX0_exchange 9 = .ok (.istore_n 1, 1) := by decide +kernel
theorem dX0_exchange_10 : decode cX0_exchange 10 = .ok (.iconst 0, 1) := by decide +kernel
theorem dX0_exchange_11 : decode cX0_exchange 11 = .ok (.istore_n 2, 1) := by decide +kernel
theorem dX0_exchange_12 : decode cX0_exchange 12 = .ok (.iconst 0, 1) := by decide +kernel
theorem dX0_exchange_13 : decode cX0_exchange 13 = .ok (.istore_n 3, 1) := by decide +kernel
theorem dX0_exchange_14 : decode cX0_exchange 14 = .ok (.iload_n 3, 1) := by decide +kernel
theorem dX0_exchange_15 : decode cX0_exchange 15 = .ok (.bipush 8, 2) := by decide +kernel
theorem dX0_exchange_17 : decode cX0_exchange 17 = .ok (.if_icmp .ge 62, 3) := by decide +kernel
theorem dX0_exchange_20 : decode cX0_exchange 20 = .ok (.iload_n 3, 1) := by decide +kernel
theorem dX0_exchange_21 : decode cX0_exchange 21 = .ok (.iconst 1, 1) := by decide +kernel
theorem dX0_exchange_22 : decode cX0_exchange 22 = .ok (.iadd, 1) := by decide +kernel
theorem dX0_exchange_23 : decode cX0_exchange 23 = .ok (.istore 4, 2) := by decide +kernel
theorem dX0_exchange_25 : decode cX0_exchange 25 = .ok (.iload 4, 2) := by decide +kernel
theorem dX0_exchange_27 : decode cX0_exchange 27 = .ok (.bipush 8, 2) := by decide +kernel
theorem dX0_exchange_29 : decode cX0_exchange 29 = .ok (.if_icmp .ge 44, 3) := by decide +kernel
theorem dX0_exchange_32 : decode cX0_exchange 32 = .ok (.aload_n 0, 1) := by decide +kernel
theorem dX0_exchange_33 : decode cX0_exchange 33 = .ok (.iload_n 3, 1) := by decide +kernel
theorem dX0_exchange_34 : decode cX0_exchange 34 = .ok (.iload 4, 2) := by decide +kernel
theorem dX0_exchange_36 : decode cX0_exchange 36 = .ok (.invokevirtual 54, 3) := by decide +kernel
theorem dX0_exchange_39 : decode cX0_exchange 39 = .ok (.ifCond .eq 28, 3) := by decide +kernel
theorem dX0_exchange_42 : decode cX0_exchange 42 = .ok (.aload_n 0, 1) := by decide +kernel
theorem dX0_exchange_43 : decode cX0_exchange 43 = .ok (.getfield 24, 3) := by decide +kernel
theorem dX0_exchange_46 : decode cX0_exchange 46 = .ok (.iload_n 3, 1) := by decide +kernel
theorem dX0_exchange_47 : decode cX0_exchange 47 = .ok (.iload 4, 2) := by decide +kernel
theorem dX0_exchange_49 : decode cX0_exchange 49 = .ok (.invokestatic 46, 3) := by decide +kernel
theorem dX0_exchange_52 : decode cX0_exchange 52 = .ok (.iaload, 1) := by decide +kernel
theorem dX0_exchange_53 : decode cX0_exchange 53 = .ok (.iload_n 1, 1) := by decide +kernel
theorem dX0_exchange_54 : decode cX0_exchange 54 = .ok (.if_icmp .ne 13, 3) := by decide +kernel
theorem dX0_exchange_57 : decode cX0_exchange 57 = .ok (.iload_n 2, 1) := by decide +kernel
theorem dX0_exchange_58 : decode cX0_exchange 58 = .ok (.aload_n 0, 1) := by decide +kernel
theorem dX0_exchange_59 : decode cX0_exchange 59 = .ok (.iload_n 3, 1) := by decide +kernel
theorem dX0_exchange_60 : decode cX0_exchange 60 = .ok (.iload 4, 2) := by decide +kernel
theorem dX0_exchange_62 : decode cX0_exchange 62 = .ok (.invokevirtual 106, 3) := by decide +kernel
theorem dX0_exchange_65 : decode cX0_exchange 65 = .ok (.iadd, 1) := by decide +kernel
theorem dX0_exchange_66 : decode cX0_exchange 66 = .ok (.istore_n 2, 1) := by decide +kernel
theorem dX0_exchange_67 : decode cX0_exchange 67 = .ok (.iinc 4 1, 3) := by decide +kernel
theorem dX0_exchange_70 : decode cX0_exchange 70 = .ok (.goto (-45), 3) := by decide +kernel
theorem dX0_exchange_73 : decode cX0_exchange 73 = .ok (.iinc 3 1, 3) := by decide +kernel
theorem dX0_exchange_76 : decode cX0_exchange 76 = .ok (.goto (-62), 3) := by decide +kernel
theorem dX0_exchange_79 : decode cX0_exchange 79 = .ok (.iload_n 2, 1) := by decide +kernel
theorem dX0_exchange_80 : decode cX0_exchange 80 = .ok (.ireturn, 1) := by decide +kernel
set_option maxRecDepth 20000 in
theorem ggX0_exchangeAlong_J9_floorDiv_7cf53 : GoodIn wsX0_exchangeAlong wsJ9_floorDiv_7cf53 := goodIn_r _ [13] (by decide +kernel) (by decide +kernel)
set_option maxRecDepth 20000 in
theorem gX0_exchangeAlong_J9_floorDiv_7cf53 : GoodIn wsX0_exchangeAlong (va_wsS RX0 109 yJ9_floorDiv_7cf53 wsJ9_floorDiv_7cf53) := goodIn_app (goodIn_of _ (by decide +kernel)) ggX0_exchangeAlong_J9_floorDiv_7cf53
theorem dX0_exchangeAlong_0 : decode cX0_exchangeAlong 0 = .ok (.aload_n 0, 1) := by decide +kernel
theorem dX0_exchangeAlong_1 : decode cX0_exchangeAlong 1 = .ok (.getfield 15, 3) := by decide +kernel
theorem dX0_exchangeAlong_4 : decode cX0_exchangeAlong 4 = .ok (.iload_n 1, 1) := by decide +kernel
theorem dX0_exchangeAlong_5 : decode cX0_exchangeAlong 5 = .ok (.iaload, 1) := by decide +kernel
theorem dX0_exchangeAlong_6 : decode cX0_exchangeAlong 6 = .ok (.aload_n 0, 1) := by decide +kernel
theorem dX0_exchangeAlong_7 : decode cX0_exchangeAlong 7 = .ok (.getfield 15, 3) := by decide +kernel
theorem dX0_exchangeAlong_10 : decode cX0_exchangeAlong 10 = .ok (.iload_n 2, 1) := by decide +kernel
theorem dX0_exchangeAlong_11 : decode cX0_exchangeAlong 11 = .ok (.iaload, 1) := by decide +kernel
theorem dX0_exchangeAlong_12 : decode cX0_exchangeAlong 12 = .ok (.iadd, 1) := by decide +kernel
theorem dX0_exchangeAlong_13 : decode cX0_exchangeAlong 13 = .ok (.istore_n 3, 1) := by decide +kernel
theorem dX0_exchangeAlong_14 : decode cX0_exchangeAlong 14 = .ok (.aload_n 0, 1) := by decide +kernel
theorem dX0_exchangeAlong_15 : decode cX0_exchangeAlong 15 = .ok (.getfield 9, 3) := by decide +kernel
theorem dX0_exchangeAlong_18 : decode cX0_exchangeAlong 18 = .ok (.iload_n 1, 1) := by decide +kernel
theorem dX0_exchangeAlong_19 : decode cX0_exchangeAlong 19 = .ok (.iaload, 1) := by decide +kernel
theorem dX0_exchangeAlong_20 : decode cX0_exchangeAlong 20 = .ok (.aload_n 0, 1) := by decide +kernel
theorem dX0_exchangeAlong_21 : decode cX0_exchangeAlong 21 = .ok (.getfield 9, 3) := by decide +kernel
theorem dX0_exchangeAlong_24 : decode cX0_exchangeAlong 24 = .ok (.iload_n 2, 1) := by decide +kernel
theorem dX0_exchangeAlong_25 : decode cX0_exchangeAlong 25 = .ok (.iaload, 1) := by decide +kernel
theorem dX0_exchangeAlong_26 : decode cX0_exchangeAlong 26 = .ok (.iadd, 1) := by decide +kernel
theorem dX0_exchangeAlong_27 : decode cX0_exchangeAlong 27 = .ok (.iconst 1, 1) := by decide +kernel
theorem dX0_exchangeAlong_28 : decode cX0_exchangeAlong 28 = .ok (.invokestatic 62, 3) := by decide +kernel
theorem dX0_exchangeAlong_31 : decode cX0_exchangeAlong 31 = .ok (.istore 4, 2) := by decide +kernel
theorem dX0_exchangeAlong_33 : decode cX0_exchangeAlong 33 = .ok (.iload_n 3, 1) := by decide +kernel
theorem dX0_exchangeAlong_34 : decode cX0_exchangeAlong 34 = .ok (.aload_n 0, 1) := by decide +kernel
theorem dX0_exchangeAlong_35 : decode cX0_exchangeAlong 35 = .ok (.getfield 9, 3) := by decide +kernel
theorem dX0_exchangeAlong_38 : decode cX0_exchangeAlong 38 = .ok (.iload_n 1, 1) := by decide +kernel
theorem dX0_exchangeAlong_39 : decode cX0_exchangeAlong 39 = .ok (.iaload, 1) := by decide +kernel
theorem dX0_exchangeAlong_40 : decode cX0_exchangeAlong 40 = .ok (.imul, 1) := by decide +kernel
theorem dX0_exchangeAlong_41 : decode cX0_exchangeAlong 41 = .ok (.iload 4, 2) := by decide +kernel
theorem dX0_exchangeAlong_43 : decode cX0_exchangeAlong 43 = .ok (.invokestatic 109, 3) := by decide +kernel
theorem dX0_exchangeAlong_46 : decode cX0_exchangeAlong 46 = .ok (.istore 5, 2) := by decide +kernel
theorem dX0_exchangeAlong_48 : decode cX0_exchangeAlong 48 = .ok (.iload_n 3, 1) := by decide +kernel
theorem dX0_exchangeAlong_49 : decode cX0_exchangeAlong 49 = .ok (.aload_n 0, 1) := by decide +kernel
theorem dX0_exchangeAlong_50 : decode cX0_exchangeAlong 50 = .ok (.getfield 9, 3) := by decide +kernel
theorem dX0_exchangeAlong_53 : decode cX0_exchangeAlong 53 = .ok (.iload_n 2, 1) := by decide +kernel
theorem dX0_exchangeAlong_54 : decode cX0_exchangeAlong 54 = .ok (.iaload, 1) := by decide +kernel
theorem dX0_exchangeAlong_55 : decode cX0_exchangeAlong 55 = .ok (.imul, 1) := by decide +kernel
theorem dX0_exchangeAlong_56 : decode cX0_exchangeAlong 56 = .ok (.iload 4, 2) := by decide +kernel
theorem dX0_exchangeAlong_58 : decode cX0_exchangeAlong 58 = .ok (.invokestatic 109, 3) := by decide +kernel
theorem dX0_exchangeAlong_61 : decode cX0_exchangeAlong 61 = .ok (.istore 6, 2) := by decide +kernel
theorem dX0_exchangeAlong_63 : decode cX0_exchangeAlong 63 = .ok (.aload_n 0, 1) := by decide +kernel
theorem dX0_exchangeAlong_64 : decode cX0_exchangeAlong 64 = .ok (.getfield 15, 3) := by decide +kernel
theorem dX0_exchangeAlong_67 : decode cX0_exchangeAlong 67 = .ok (.iload_n 1, 1) := by decide +kernel
theorem dX0_exchangeAlong_68 : decode cX0_exchangeAlong 68 = .ok (.iaload, 1) := by decide +kernel
theorem dX0_exchangeAlong_69 : decode cX0_exchangeAlong 69 = .ok (.aload_n 0, 1) := by decide +kernel
theorem dX0_exchangeAlong_70 : decode cX0_exchangeAlong 70 = .ok (.getfield 15, 3) := by decide +kernel
theorem dX0_exchangeAlong_73 : decode cX0_exchangeAlong 73 = .ok (.iload_n 2, 1) := by decide +kernel
theorem dX0_exchangeAlong_74 : decode cX0_exchangeAlong 74 = .ok (.iaload, 1) := by decide +kernel
theorem dX0_exchangeAlong_75 : decode cX0_exchangeAlong 75 = .ok (.if_icmp .lt 9, 3) := by decide +kernel
theorem dX0_exchangeAlong_78 : decode cX0_exchangeAlong 78 = .ok (.iload_n 3, 1) := by decide +kernel
theorem dX0_exchangeAlong_79 : decode cX0_exchangeAlong 79 = .ok (.iload 6, 2) := by decide +kernel
theorem dX0_exchangeAlong_81 : decode cX0_exchangeAlong 81 = .ok (.isub, 1) := by decide +kernel
theorem dX0_exchangeAlong_82 : decode cX0_exchangeAlong 82 = .ok (.istore 5, 2) := by decide +kernel
theorem dX0_exchangeAlong_84 : decode cX0_exchangeAlong 84 = .ok (.iload 5, 2) := by decide +kernel
theorem dX0_exchangeAlong_86 : decode cX0_exchangeAlong 86 = .ok (.aload_n 0, 1) := by decide +kernel
theorem dX0_exchangeAlong_87 : decode cX0_exchangeAlong 87 = .ok (.getfield 15, 3) := by decide +kernel
theorem dX0_exchangeAlong_90 : decode cX0_exchangeAlong 90 = .ok (.iload_n 1, 1) := by decide +kernel
theorem dX0_exchangeAlong_91 : decode cX0_exchangeAlong 91 = .ok (.iaload, 1) := by decide +kernel
theorem dX0_exchangeAlong_92 : decode cX0_exchangeAlong 92 = .ok (.isub, 1) := by decide +kernel
theorem dX0_exchangeAlong_93 : decode cX0_exchangeAlong 93 = .ok (.invokestatic 103, 3) := by decide +kernel
theorem dX0_exchangeAlong_96 : decode cX0_exchangeAlong 96 = .ok (.istore 7, 2) := by decide +kernel
theorem dX0_exchangeAlong_98 : decode cX0_exchangeAlong 98 = .ok (.aload_n 0, 1) := by decide +kernel
theorem dX0_exchangeAlong_99 : decode cX0_exchangeAlong 99 = .ok (.getfield 15, 3) := by decide +kernel
theorem dX0_exchangeAlong_102 : decode cX0_exchangeAlong 102 = .ok (.iload_n 1, 1) := by decide +kernel
theorem dX0_exchangeAlong_103 : decode cX0_exchangeAlong 103 = .ok (.iload 5, 2) := by decide +kernel
theorem dX0_exchangeAlong_105 : decode cX0_exchangeAlong 105 = .ok (.iastore, 1) := by decide +kernel
theorem dX0_exchangeAlong_106 : decode cX0_exchangeAlong 106 = .ok (.aload_n 0, 1) := by decide +kernel
theorem dX0_exchangeAlong_107 : decode cX0_exchangeAlong 107 = .ok (.getfield 15, 3) := by decide +kernel
theorem dX0_exchangeAlong_110 : decode cX0_exchangeAlong 110 = .ok (.iload_n 2, 1) := by decide +kernel
theorem dX0_exchangeAlong_111 : decode cX0_exchangeAlong 111 = .ok (.iload_n 3, 1) := by decide +kernel
theorem dX0_exchangeAlong_112 : decode cX0_exchangeAlong 112 = .ok (.iload 5, 2) := by decide +kernel
theorem dX0_exchangeAlong_114 : decode cX0_exchangeAlong 114 = .ok (.isub, 1) := by decide +kernel
theorem dX0_exchangeAlong_115 : decode cX0_exchangeAlong 115 = .ok (.iastore, 1) := by decide +kernel
theorem dX0_exchangeAlong_116 : decode cX0_exchangeAlong 116 = .ok (.iload 7, 2) := by decide +kernel
theorem dX0_exchangeAlong_118 : decode cX0_exchangeAlong 118 = .ok (.ireturn, 1) := by decide +kernel
set_option maxRecDepth 20000 in
theorem ggX0_deal_X0_dealFrom : GoodIn wsX0_deal wsX0_dealFrom := goodIn_r _ [6, 1, 7, 8, 9, 10, 11, 5, 12, 13, 14, 15, 16, 17, 18, 19, 20, 21, 22, 23, 24, 25, 30, 31, 32, 33, 34, 35, 36, 37, 38] (by decide +kernel) (by decide +kernel)
set_option maxRecDepth 20000 in
theorem gX0_deal_X0_dealFrom : GoodIn wsX0_deal (wsV RX0 112 RX0 yX0_dealFrom wsX0_dealFrom) := goodIn_app (goodIn_of _ (by decide +kernel)) ggX0_deal_X0_dealFrom
set_option maxRecDepth 20000 in
theorem ggX0_deal_X0_settle : GoodIn wsX0_deal wsX0_settle := goodIn_r _ [29, 1, 7, 30, 31, 32, 33, 34, 35, 36, 37, 38] (by decide +kernel) (by decide +kernel)
set_option maxRecDepth 20000 in
theorem gX0_deal_X0_settle : GoodIn wsX0_deal (wsV RX0 100 RX0 yX0_settle wsX0_settle) := goodIn_app (goodIn_of _ (by decide +kernel)) ggX0_deal_X0_settle
theorem dX0_deal_0 : decode cX0_deal 0 = .ok (.iconst 0, 1) := by decide +kernel
theorem dX0_deal_1 : decode cX0_deal 1 = .ok (.istore_n 1, 1) := by decide +kernel
theorem dX0_deal_2 : decode cX0_deal 2 = .ok (.iconst 0, 1) := by decide +kernel
theorem dX0_deal_3 : decode cX0_deal 3 = .ok (.istore_n 2, 1) := by decide +kernel
theorem dX0_deal_4 : decode cX0_deal 4 = .ok (.iload_n 2, 1) := by decide +kernel
theorem dX0_deal_5 : decode cX0_deal 5 = .ok (.bipush 8, 2) := by decide +kernel
theorem dX0_deal_7 : decode cX0_deal 7 = .ok (.if_icmp .ge 26, 3) := by decide +kernel
theorem dX0_deal_10 : decode cX0_deal 10 = .ok (.aload_n 0, 1) := by decide +kernel
theorem dX0_deal_11 : decode cX0_deal 11 = .ok (.getfield 15, 3) := by decide +kernel
theorem dX0_deal_14 : decode cX0_deal 14 = .ok (.iload_n 2, 1) := by decide +kernel
theorem dX0_deal_15 : decode cX0_deal 15 = .ok (.iaload, 1) := by decide +kernel
theorem dX0_deal_16 : decode cX0_deal 16 = .ok (.ifCond .le 11, 3) := by decide +kernel
theorem dX0_deal_19 : decode cX0_deal 19 = .ok (.iload_n 1, 1) := by decide +kernel
theorem dX0_deal_20 : decode cX0_deal 20 = .ok (.aload_n 0, 1) := by decide +kernel
theorem dX0_deal_21 : decode cX0_deal 21 = .ok (.iload_n 2, 1) := by decide +kernel
theorem dX0_deal_22 : decode cX0_deal 22 = .ok (.invokevirtual 112, 3) := by decide +kernel
theorem dX0_deal_25 : decode cX0_deal 25 = .ok (.iadd, 1) := by decide +kernel
theorem dX0_deal_26 : decode cX0_deal 26 = .ok (.istore_n 1, 1) := by decide +kernel
theorem dX0_deal_27 : decode cX0_deal 27 = .ok (.iinc 2 1, 3) := by decide +kernel
theorem dX0_deal_30 : decode cX0_deal 30 = .ok (.goto (-26), 3) := by decide +kernel
theorem dX0_deal_33 : decode cX0_deal 33 = .ok (.aload_n 0, 1) := by decide +kernel
theorem dX0_deal_34 : decode cX0_deal 34 = .ok (.invokevirtual 100, 3) := by decide +kernel
theorem dX0_deal_37 : decode cX0_deal 37 = .ok (.iload_n 1, 1) := by decide +kernel
theorem dX0_deal_38 : decode cX0_deal 38 = .ok (.ireturn, 1) := by decide +kernel
set_option maxRecDepth 20000 in
theorem ggX0_dealFrom_X0_slots : GoodIn wsX0_dealFrom wsX0_slots := goodIn_r _ [8, 9, 22, 23, 24, 25, 26, 27, 28, 29, 30] (by decide +kernel) (by decide +kernel)
set_option maxRecDepth 20000 in
theorem gX0_dealFrom_X0_slots : GoodIn wsX0_dealFrom (wsV RX0 58 RX0 yX0_slots wsX0_slots) := goodIn_app (goodIn_of _ (by decide +kernel)) ggX0_dealFrom_X0_slots
set_option maxRecDepth 20000 in
theorem ggX0_dealFrom_X0_rotorLeftOver : GoodIn wsX0_dealFrom wsX0_rotorLeftOver := goodIn_r _ [13, 3, 4, 5, 6, 7, 8, 9, 22, 23, 24, 25, 26, 27, 28, 29, 30] (by decide +kernel) (by decide +kernel)
set_option maxRecDepth 20000 in
theorem gX0_dealFrom_X0_rotorLeftOver : GoodIn wsX0_dealFrom (wsV RX0 78 RX0 yX0_rotorLeftOver wsX0_rotorLeftOver) := goodIn_app (goodIn_of _ (by decide +kernel)) ggX0_dealFrom_X0_rotorLeftOver
set_option maxRecDepth 20000 in
theorem ggX0_dealFrom_X0_joins : GoodIn wsX0_dealFrom wsX0_joins := goodIn_r _ [17, 18, 19, 20, 21, 22, 23, 24, 25, 26, 27, 28, 29, 30] (by decide +kernel) (by decide +kernel)
set_option maxRecDepth 20000 in
theorem gX0_dealFrom_X0_joins : GoodIn wsX0_dealFrom (wsV RX0 54 RX0 yX0_joins wsX0_joins) := goodIn_app (goodIn_of _ (by decide +kernel)) ggX0_dealFrom_X0_joins
theorem dX0_dealFrom_0 : decode cX0_dealFrom 0 = .ok (.aload_n 0, 1) := by decide +kernel
theorem dX0_dealFrom_1 : decode cX0_dealFrom 1 = .ok (.iload_n 1, 1) := by decide +kernel
theorem dX0_dealFrom_2 : decode cX0_dealFrom 2 = .ok (.invokevirtual 58, 3) := by decide +kernel
theorem dX0_dealFrom_5 : decode cX0_dealFrom 5 = .ok (.istore_n 2, 1) := by decide +kernel
theorem dX0_dealFrom_6 : decode cX0_dealFrom 6 = .ok (.aload_n 0, 1) := by decide +kernel
theorem dX0_dealFrom_7 : decode cX0_dealFrom 7 = .ok (.getfield 15, 3) := by decide +kernel
theorem dX0_dealFrom_10 : decode cX0_dealFrom 10 = .ok (.iload_n 1, 1) := by decide +kernel
theorem dX0_dealFrom_11 : decode cX0_dealFrom 11 = .ok (.iaload, 1) := by decide +kernel
theorem dX0_dealFrom_12 : decode cX0_dealFrom 12 = .ok (.iload_n 2, 1) := by decide +kernel
theorem dX0_dealFrom_13 : decode cX0_dealFrom 13 = .ok (.idiv, 1) := by decide +kernel
theorem dX0_dealFrom_14 : decode cX0_dealFrom 14 = .ok (.istore_n 3, 1) := by decide +kernel
theorem dX0_dealFrom_15 : decode cX0_dealFrom 15 = .ok (.aload_n 0, 1) := by decide +kernel
theorem dX0_dealFrom_16 : decode cX0_dealFrom 16 = .ok (.getfield 15, 3) := by decide +kernel
theorem dX0_dealFrom_19 : decode cX0_dealFrom 19 = .ok (.iload_n 1, 1) := by decide +kernel
theorem dX0_dealFrom_20 : decode cX0_dealFrom 20 = .ok (.iaload, 1) := by decide +kernel
theorem dX0_dealFrom_21 : decode cX0_dealFrom 21 = .ok (.iload_n 2, 1) := by decide +kernel
theorem dX0_dealFrom_22 : decode cX0_dealFrom 22 = .ok (.irem, 1) := by decide +kernel
theorem dX0_dealFrom_23 : decode cX0_dealFrom 23 = .ok (.istore 4, 2) := by decide +kernel
theorem dX0_dealFrom_25 : decode cX0_dealFrom 25 = .ok (.aload_n 0, 1) := by decide +kernel
theorem dX0_dealFrom_26 : decode cX0_dealFrom 26 = .ok (.iload_n 1, 1) := by decide +kernel
theorem dX0_dealFrom_27 : decode cX0_dealFrom 27 = .ok (.invokevirtual 78, 3) := by decide +kernel
theorem dX0_dealFrom_30 : decode cX0_dealFrom 30 = .ok (.istore 5, 2) := by decide +kernel
theorem dX0_dealFrom_32 : decode cX0_dealFrom 32 = .ok (.iconst 0, 1) := by decide +kernel
theorem dX0_dealFrom_33 : decode cX0_dealFrom 33 = .ok (.istore 6, 2) := by decide +kernel
theorem dX0_dealFrom_35 : decode cX0_dealFrom 35 = .ok (.iconst 0, 1) := by decide +kernel
theorem dX0_dealFrom_36 : decode cX0_dealFrom 36 = .ok (.istore 7, 2) := by decide +kernel
theorem dX0_dealFrom_38 : decode cX0_dealFrom 38 = .ok (.iconst 0, 1) := by decide +kernel
theorem dX0_dealFrom_39 : decode cX0_dealFrom 39 = .ok (.istore 8, 2) := by decide +kernel
theorem dX0_dealFrom_41 : decode cX0_dealFrom 41 = .ok (.iload 8, 2) := by decide +kernel
theorem dX0_dealFrom_43 : decode cX0_dealFrom 43 = .ok (.bipush 8, 2) := by decide +kernel
theorem dX0_dealFrom_45 : decode cX0_dealFrom 45 = .ok (.if_icmp .ge 68, 3) := by decide +kernel
theorem dX0_dealFrom_48 : decode cX0_dealFrom 48 = .ok (.aload_n 0, 1) := by decide +kernel
theorem dX0_dealFrom_49 : decode cX0_dealFrom 49 = .ok (.iload_n 1, 1) := by decide +kernel
theorem dX0_dealFrom_50 : decode cX0_dealFrom 50 = .ok (.iload 8, 2) := by decide +kernel
theorem dX0_dealFrom_52 : decode cX0_dealFrom 52 = .ok (.invokevirtual 54, 3) := by decide +kernel
theorem dX0_dealFrom_55 : decode cX0_dealFrom 55 = .ok (.ifCond .eq 52, 3) := by decide +kernel
theorem dX0_dealFrom_58 : decode cX0_dealFrom 58 = .ok (.iload 6, 2) := by decide +kernel
theorem dX0_dealFrom_60 : decode cX0_dealFrom 60 = .ok (.iload 5, 2) := by decide +kernel
theorem dX0_dealFrom_62 : decode cX0_dealFrom 62 = .ok (.isub, 1) := by decide +kernel
theorem dX0_dealFrom_63 : decode cX0_dealFrom 63 = .ok (.iload_n 2, 1) := by decide +kernel
theorem dX0_dealFrom_64 : decode cX0_dealFrom 64 = .ok (.iadd, 1) := by decide +kernel
theorem dX0_dealFrom_65 : decode cX0_dealFrom 65 = .ok (.iload_n 2, 1) := by decide +kernel
theorem dX0_dealFrom_66 : decode cX0_dealFrom 66 = .ok (.irem, 1) := by decide +kernel
theorem dX0_dealFrom_67 : decode cX0_dealFrom 67 = .ok (.istore 9, 2) := by decide +kernel
theorem dX0_dealFrom_69 : decode cX0_dealFrom 69 = .ok (.iload 9, 2) := by decide +kernel
theorem dX0_dealFrom_71 : decode cX0_dealFrom 71 = .ok (.iload 4, 2) := by decide +kernel
theorem dX0_dealFrom_73 : decode cX0_dealFrom 73 = .ok (.if_icmp .ge 9, 3) := by decide +kernel
theorem dX0_dealFrom_76 : decode cX0_dealFrom 76 = .ok (.iload_n 3, 1) := by decide +kernel
theorem dX0_dealFrom_77 : decode cX0_dealFrom 77 = .ok (.iconst 1, 1) := by decide +kernel
theorem dX0_dealFrom_78 : decode cX0_dealFrom 78 = .ok (.iadd, 1) := by decide +kernel
theorem dX0_dealFrom_79 : decode cX0_dealFrom 79 = .ok (.goto 4, 3) := by decide +kernel
theorem dX0_dealFrom_82 : decode cX0_dealFrom 82 = .ok (.iload_n 3, 1) := by decide +kernel
theorem dX0_dealFrom_83 : decode cX0_dealFrom 83 = .ok (.istore 10, 2) := by decide +kernel
theorem dX0_dealFrom_85 : decode cX0_dealFrom 85 = .ok (.aload_n 0, 1) := by decide +kernel
theorem dX0_dealFrom_86 : decode cX0_dealFrom 86 = .ok (.getfield 30, 3) := by decide +kernel
theorem dX0_dealFrom_89 : decode cX0_dealFrom 89 = .ok (.iload 8, 2) := by decide +kernel
theorem dX0_dealFrom_91 : decode cX0_dealFrom 91 = .ok (.dup2, 1) := by decide +kernel
theorem dX0_dealFrom_92 : decode cX0_dealFrom 92 = .ok (.iaload, 1) := by decide +kernel
theorem dX0_dealFrom_93 : decode cX0_dealFrom 93 = .ok (.iload 10, 2) := by decide +kernel
theorem dX0_dealFrom_95 : decode cX0_dealFrom 95 = .ok (.iadd, 1) := by decide +kernel
theorem dX0_dealFrom_96 : decode cX0_dealFrom 96 = .ok (.iastore, 1) := by decide +kernel
theorem dX0_dealFrom_97 : decode cX0_dealFrom 97 = .ok (.iload 7, 2) := by decide +kernel
theorem dX0_dealFrom_99 : decode cX0_dealFrom 99 = .ok (.iload 10, 2) := by decide +kernel
theorem dX0_dealFrom_101 : decode cX0_dealFrom 101 = .ok (.iadd, 1) := by decide +kernel
theorem dX0_dealFrom_102 : decode cX0_dealFrom 102 = .ok (.istore 7, 2) := by decide +kernel
theorem dX0_dealFrom_104 : decode cX0_dealFrom 104 = .ok (.iinc 6 1, 3) := by decide +kernel
theorem dX0_dealFrom_107 : decode cX0_dealFrom 107 = .ok (.iinc 8 1, 3) := by decide +kernel
theorem dX0_dealFrom_110 : decode cX0_dealFrom 110 = .ok (.goto (-69), 3) := by decide +kernel
theorem dX0_dealFrom_113 : decode cX0_dealFrom 113 = .ok (.aload_n 0, 1) := by decide +kernel
theorem dX0_dealFrom_114 : decode cX0_dealFrom 114 = .ok (.getfield 30, 3) := by decide +kernel
theorem dX0_dealFrom_117 : decode cX0_dealFrom 117 = .ok (.iload_n 1, 1) := by decide +kernel
theorem dX0_dealFrom_118 : decode cX0_dealFrom 118 = .ok (.dup2, 1) := by decide +kernel
theorem dX0_dealFrom_119 : decode cX0_dealFrom 119 = .ok (.iaload, 1) := by decide +kernel
theorem dX0_dealFrom_120 : decode cX0_dealFrom 120 = .ok (.iload 7, 2) := by decide +kernel
theorem dX0_dealFrom_122 : decode cX0_dealFrom 122 = .ok (.isub, 1) := by decide +kernel
theorem dX0_dealFrom_123 : decode cX0_dealFrom 123 = .ok (.iastore, 1) := by decide +kernel
theorem dX0_dealFrom_124 : decode cX0_dealFrom 124 = .ok (.aload_n 0, 1) := by decide +kernel
theorem dX0_dealFrom_125 : decode cX0_dealFrom 125 = .ok (.getfield 18, 3) := by decide +kernel
theorem dX0_dealFrom_128 : decode cX0_dealFrom 128 = .ok (.iload_n 1, 1) := by decide +kernel
theorem dX0_dealFrom_129 : decode cX0_dealFrom 129 = .ok (.iload 5, 2) := by decide +kernel
theorem dX0_dealFrom_131 : decode cX0_dealFrom 131 = .ok (.iload 4, 2) := by decide +kernel
theorem dX0_dealFrom_133 : decode cX0_dealFrom 133 = .ok (.iadd, 1) := by decide +kernel
theorem dX0_dealFrom_134 : decode cX0_dealFrom 134 = .ok (.iload_n 2, 1) := by decide +kernel
theorem dX0_dealFrom_135 : decode cX0_dealFrom 135 = .ok (.irem, 1) := by decide +kernel
theorem dX0_dealFrom_136 : decode cX0_dealFrom 136 = .ok (.iastore, 1) := by decide +kernel
theorem dX0_dealFrom_137 : decode cX0_dealFrom 137 = .ok (.iload 7, 2) := by decide +kernel
theorem dX0_dealFrom_139 : decode cX0_dealFrom 139 = .ok (.ireturn, 1) := by decide +kernel
theorem dX0_settle_0 : decode cX0_settle 0 = .ok (.iconst 0, 1) := by decide +kernel
theorem dX0_settle_1 : decode cX0_settle 1 = .ok (.istore_n 1, 1) := by decide +kernel
theorem dX0_settle_2 : decode cX0_settle 2 = .ok (.iload_n 1, 1) := by decide +kernel
theorem dX0_settle_3 : decode cX0_settle 3 = .ok (.bipush 8, 2) := by decide +kernel
theorem dX0_settle_5 : decode cX0_settle 5 = .ok (.if_icmp .ge 31, 3) := by decide +kernel
theorem dX0_settle_8 : decode cX0_settle 8 = .ok (.aload_n 0, 1) := by decide +kernel
theorem dX0_settle_9 : decode cX0_settle 9 = .ok (.getfield 15, 3) := by decide +kernel
theorem dX0_settle_12 : decode cX0_settle 12 = .ok (.iload_n 1, 1) := by decide +kernel
theorem dX0_settle_13 : decode cX0_settle 13 = .ok (.dup2, 1) := by decide +kernel
theorem dX0_settle_14 : decode cX0_settle 14 = .ok (.iaload, 1) := by decide +kernel
theorem dX0_settle_15 : decode cX0_settle 15 = .ok (.aload_n 0, 1) := by decide +kernel
theorem dX0_settle_16 : decode cX0_settle 16 = .ok (.getfield 30, 3) := by decide +kernel
theorem dX0_settle_19 : decode cX0_settle 19 = .ok (.iload_n 1, 1) := by decide +kernel
theorem dX0_settle_20 : decode cX0_settle 20 = .ok (.iaload, 1) := by decide +kernel
theorem dX0_settle_21 : decode cX0_settle 21 = .ok (.iadd, 1) := by decide +kernel
theorem dX0_settle_22 : decode cX0_settle 22 = .ok (.iastore, 1) := by decide +kernel
theorem dX0_settle_23 : decode cX0_settle 23 = .ok (.aload_n 0, 1) := by decide +kernel
theorem dX0_settle_24 : decode cX0_settle 24 = .ok (.getfield 30, 3) := by decide +kernel
theorem dX0_settle_27 : decode cX0_settle 27 = .ok (.iload_n 1, 1) := by decide +kernel
theorem dX0_settle_28 : decode cX0_settle 28 = .ok (.iconst 0, 1) := by decide +kernel
theorem dX0_settle_29 : decode cX0_settle 29 = .ok (.iastore, 1) := by decide +kernel
theorem dX0_settle_30 : decode cX0_settle 30 = .ok (.iinc 1 1, 3) := by decide +kernel
theorem dX0_settle_33 : decode cX0_settle 33 = .ok (.goto (-31), 3) := by decide +kernel
theorem dX0_settle_36 : decode cX0_settle 36 = .ok (.return_, 1) := by decide +kernel
