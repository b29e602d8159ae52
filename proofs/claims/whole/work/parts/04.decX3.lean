theorem dX3_init_0 : decode cX3_init 0 = .ok (.aload_n 0, 1) := by decide +kernel
theorem dX3_init_1 : decode cX3_init 1 = .ok (.invokespecial 1, 3) := by decide +kernel
theorem dX3_init_4 : decode cX3_init 4 = .ok (.aload_n 0, 1) := by decide +kernel
theorem dX3_init_5 : decode cX3_init 5 = .ok (.sipush 153, 3) := by decide +kernel
theorem dX3_init_8 : decode cX3_init 8 = .ok (.newarray .int, 2) := by decide +kernel
theorem dX3_init_10 : decode cX3_init 10 = .ok (.putfield 7, 3) := by decide +kernel
theorem dX3_init_13 : decode cX3_init 13 = .ok (.aload_n 0, 1) := by decide +kernel
theorem dX3_init_14 : decode cX3_init 14 = .ok (.sipush 459, 3) := by decide +kernel
theorem dX3_init_17 : decode cX3_init 17 = .ok (.newarray .int, 2) := by decide +kernel
theorem dX3_init_19 : decode cX3_init 19 = .ok (.putfield 13, 3) := by decide +kernel
theorem dX3_init_22 : decode cX3_init 22 = .ok (.aload_n 0, 1) := by decide +kernel
theorem dX3_init_23 : decode cX3_init 23 = .ok (.iconst 2, 1) := by decide +kernel
theorem dX3_init_24 : decode cX3_init 24 = .ok (.newarray .boolean, 2) := by decide +kernel
theorem dX3_init_26 : decode cX3_init 26 = .ok (.putfield 16, 3) := by decide +kernel
theorem dX3_init_29 : decode cX3_init 29 = .ok (.aload_n 0, 1) := by decide +kernel
theorem dX3_init_30 : decode cX3_init 30 = .ok (.bipush 40, 2) := by decide +kernel
theorem dX3_init_32 : decode cX3_init 32 = .ok (.newarray .int, 2) := by decide +kernel
theorem dX3_init_34 : decode cX3_init 34 = .ok (.putfield 20, 3) := by decide +kernel
theorem dX3_init_37 : decode cX3_init 37 = .ok (.aload_n 0, 1) := by decide +kernel
theorem dX3_init_38 : decode cX3_init 38 = .ok (.bipush 8, 2) := by decide +kernel
theorem dX3_init_40 : decode cX3_init 40 = .ok (.newarray .int, 2) := by decide +kernel
theorem dX3_init_42 : decode cX3_init 42 = .ok (.putfield 23, 3) := by decide +kernel
theorem dX3_init_45 : decode cX3_init 45 = .ok (.aload_n 0, 1) := by decide +kernel
theorem dX3_init_46 : decode cX3_init 46 = .ok (.bipush 8, 2) := by decide +kernel
theorem dX3_init_48 : decode cX3_init 48 = .ok (.newarray .long, 2) := by decide +kernel
theorem dX3_init_50 : decode cX3_init 50 = .ok (.putfield 26, 3) := by decide +kernel
theorem dX3_init_53 : decode cX3_init 53 = .ok (.aload_n 0, 1) := by decide +kernel
theorem dX3_init_54 : decode cX3_init 54 = .ok (.bipush 8, 2) := by decide +kernel
theorem dX3_init_56 : decode cX3_init 56 = .ok (.newarray .long, 2) := by decide +kernel
theorem dX3_init_58 : decode cX3_init 58 = .ok (.putfield 30, 3) := by decide +kernel
theorem dX3_init_61 : decode cX3_init 61 = .ok (.aload_n 0, 1) := by decide +kernel
theorem dX3_init_62 : decode cX3_init 62 = .ok (.sipush 24381, 3) := by decide +kernel
theorem dX3_init_65 : decode cX3_init 65 = .ok (.newarray .int, 2) := by decide +kernel
theorem dX3_init_67 : decode cX3_init 67 = .ok (.putfield 33, 3) := by decide +kernel
theorem dX3_init_70 : decode cX3_init 70 = .ok (.iconst 0, 1) := by decide +kernel
theorem dX3_init_71 : decode cX3_init 71 = .ok (.istore_n 1, 1) := by decide +kernel
theorem dX3_init_72 : decode cX3_init 72 = .ok (.iload_n 1, 1) := by decide +kernel
theorem dX3_init_73 : decode cX3_init 73 = .ok (.bipush 8, 2) := by decide +kernel
theorem dX3_init_75 : decode cX3_init 75 = .ok (.if_icmp .ge 18, 3) := by decide +kernel
theorem dX3_init_78 : decode cX3_init 78 = .ok (.aload_n 0, 1) := by decide +kernel
theorem dX3_init_79 : decode cX3_init 79 = .ok (.getfield 7, 3) := by decide +kernel
theorem dX3_init_82 : decode cX3_init 82 = .ok (.iconst 0, 1) := by decide +kernel
theorem dX3_init_83 : decode cX3_init 83 = .ok (.iload_n 1, 1) := by decide +kernel
theorem dX3_init_84 : decode cX3_init 84 = .ok (.iadd, 1) := by decide +kernel
theorem dX3_init_85 : decode cX3_init 85 = .ok (.iconst 1, 1) := by decide +kernel
theorem dX3_init_86 : decode cX3_init 86 = .ok (.iastore, 1) := by decide +kernel
theorem dX3_init_87 : decode cX3_init 87 = .ok (.iinc 1 1, 3) := by decide +kernel
theorem dX3_init_90 : decode cX3_init 90 = .ok (.goto (-18), 3) := by decide +kernel
theorem dX3_init_93 : decode cX3_init 93 = .ok (.iconst 0, 1) := by decide +kernel
theorem dX3_init_94 : decode cX3_init 94 = .ok (.istore_n 1, 1) := by decide +kernel
theorem dX3_init_95 : decode cX3_init 95 = .ok (.iload_n 1, 1) := by decide +kernel
theorem dX3_init_96 : decode cX3_init 96 = .ok (.bipush 64, 2) := by decide +kernel
theorem dX3_init_98 : decode cX3_init 98 = .ok (.if_icmp .ge 20, 3) := by decide +kernel
theorem dX3_init_101 : decode cX3_init 101 = .ok (.aload_n 0, 1) := by decide +kernel
theorem dX3_init_102 : decode cX3_init 102 = .ok (.getfield 7, 3) := by decide +kernel
theorem dX3_init_105 : decode cX3_init 105 = .ok (.bipush 24, 2) := by decide +kernel
theorem dX3_init_107 : decode cX3_init 107 = .ok (.iload_n 1, 1) := by decide +kernel
theorem dX3_init_108 : decode cX3_init 108 = .ok (.iadd, 1) := by decide +kernel
theorem dX3_init_109 : decode cX3_init 109 = .ok (.bipush (-6), 2) := by decide +kernel
theorem dX3_init_111 : decode cX3_init 111 = .ok (.iastore, 1) := by decide +kernel
theorem dX3_init_112 : decode cX3_init 112 = .ok (.iinc 1 1, 3) := by decide +kernel
theorem dX3_init_115 : decode cX3_init 115 = .ok (.goto (-20), 3) := by decide +kernel
theorem dX3_init_118 : decode cX3_init 118 = .ok (.return_, 1) := by decide +kernel
theorem dX3_in_0 : decode cX3_in 0 = .ok (.iload_n 0, 1) := by decide +kernel
theorem dX3_in_1 : decode cX3_in 1 = .ok (.iload_n 1, 1) := by decide +kernel
theorem dX3_in_2 : decode cX3_in 2 = .ok (.if_icmp .lt 12, 3) := by decide +kernel
theorem dX3_in_5 : decode cX3_in 5 = .ok (.iload_n 0, 1) := by decide +kernel
theorem dX3_in_6 : decode cX3_in 6 = .ok (.iload_n 2, 1) := by decide +kernel
theorem dX3_in_7 : decode cX3_in 7 = .ok (.if_icmp .gt 7, 3) := by decide +kernel
theorem dX3_in_10 : decode cX3_in 10 = .ok (.iconst 1, 1) := by decide +kernel
theorem dX3_in_11 : decode cX3_in 11 = .ok (.goto 4, 3) := by decide +kernel
theorem dX3_in_14 : decode cX3_in 14 = .ok (.iconst 0, 1) := by decide +kernel
theorem dX3_in_15 : decode cX3_in 15 = .ok (.ireturn, 1) := by decide +kernel
set_option maxRecDepth 20000 in
theorem ggX3_isNode_X3_in : GoodIn wsX3_isNode wsX3_in := goodIn_r _ [4] (by decide +kernel) (by decide +kernel)
set_option maxRecDepth 20000 in
theorem gX3_isNode_X3_in : GoodIn wsX3_isNode (va_wsS RX3 36 yX3_in wsX3_in) := goodIn_app (goodIn_of _ (by decide +kernel)) ggX3_isNode_X3_in
theorem dX3_isNode_0 : decode cX3_isNode 0 = .ok (.iload_n 0, 1) := by decide +kernel
theorem dX3_isNode_1 : decode cX3_isNode 1 = .ok (.iconst 0, 1) := by decide +kernel
theorem dX3_isNode_2 : decode cX3_isNode 2 = .ok (.bipush 7, 2) := by decide +kernel
theorem dX3_isNode_4 : decode cX3_isNode 4 = .ok (.invokestatic 36, 3) := by decide +kernel
theorem dX3_isNode_7 : decode cX3_isNode 7 = .ok (.ireturn, 1) := by decide +kernel
theorem dX3_pair_0 : decode cX3_pair 0 = .ok (.iload_n 0, 1) := by decide +kernel
theorem dX3_pair_1 : decode cX3_pair 1 = .ok (.iload_n 1, 1) := by decide +kernel
theorem dX3_pair_2 : decode cX3_pair 2 = .ok (.if_icmp .ge 12, 3) := by decide +kernel
theorem dX3_pair_5 : decode cX3_pair 5 = .ok (.bipush 8, 2) := by decide +kernel
theorem dX3_pair_7 : decode cX3_pair 7 = .ok (.iload_n 0, 1) := by decide +kernel
theorem dX3_pair_8 : decode cX3_pair 8 = .ok (.imul, 1) := by decide +kernel
theorem dX3_pair_9 : decode cX3_pair 9 = .ok (.iload_n 1, 1) := by decide +kernel
theorem dX3_pair_10 : decode cX3_pair 10 = .ok (.iadd, 1) := by decide +kernel
theorem dX3_pair_11 : decode cX3_pair 11 = .ok (.goto 9, 3) := by decide +kernel
theorem dX3_pair_14 : decode cX3_pair 14 = .ok (.bipush 8, 2) := by decide +kernel
theorem dX3_pair_16 : decode cX3_pair 16 = .ok (.iload_n 1, 1) := by decide +kernel
theorem dX3_pair_17 : decode cX3_pair 17 = .ok (.imul, 1) := by decide +kernel
theorem dX3_pair_18 : decode cX3_pair 18 = .ok (.iload_n 0, 1) := by decide +kernel
theorem dX3_pair_19 : decode cX3_pair 19 = .ok (.iadd, 1) := by decide +kernel
theorem dX3_pair_20 : decode cX3_pair 20 = .ok (.ireturn, 1) := by decide +kernel
set_option maxRecDepth 20000 in
theorem ggX3_isEdge_X3_pair : GoodIn wsX3_isEdge wsX3_pair := goodIn_r _ [5] (by decide +kernel) (by decide +kernel)
set_option maxRecDepth 20000 in
theorem gX3_isEdge_X3_pair : GoodIn wsX3_isEdge (va_wsS RX3 40 yX3_pair wsX3_pair) := goodIn_app (goodIn_of _ (by decide +kernel)) ggX3_isEdge_X3_pair
theorem dX3_isEdge_0 : decode cX3_isEdge 0 = .ok (.iload_n 1, 1) := by decide +kernel
theorem dX3_isEdge_1 : decode cX3_isEdge 1 = .ok (.iload_n 2, 1) := by decide +kernel
theorem dX3_isEdge_2 : decode cX3_isEdge 2 = .ok (.if_icmp .eq 23, 3) := by decide +kernel
theorem dX3_isEdge_5 : decode cX3_isEdge 5 = .ok (.aload_n 0, 1) := by decide +kernel
theorem dX3_isEdge_6 : decode cX3_isEdge 6 = .ok (.getfield 7, 3) := by decide +kernel
theorem dX3_isEdge_9 : decode cX3_isEdge 9 = .ok (.bipush 24, 2) := by decide +kernel
theorem dX3_isEdge_11 : decode cX3_isEdge 11 = .ok (.iload_n 1, 1) := by decide +kernel
theorem dX3_isEdge_12 : decode cX3_isEdge 12 = .ok (.iload_n 2, 1) := by decide +kernel
theorem dX3_isEdge_13 : decode cX3_isEdge 13 = .ok (.invokestatic 40, 3) := by decide +kernel
theorem dX3_isEdge_16 : decode cX3_isEdge 16 = .ok (.iadd, 1) := by decide +kernel
theorem dX3_isEdge_17 : decode cX3_isEdge 17 = .ok (.iaload, 1) := by decide +kernel
theorem dX3_isEdge_18 : decode cX3_isEdge 18 = .ok (.ifCond .lt 7, 3) := by decide +kernel
theorem dX3_isEdge_21 : decode cX3_isEdge 21 = .ok (.iconst 1, 1) := by decide +kernel
theorem dX3_isEdge_22 : decode cX3_isEdge 22 = .ok (.goto 4, 3) := by decide +kernel
theorem dX3_isEdge_25 : decode cX3_isEdge 25 = .ok (.iconst 0, 1) := by decide +kernel
theorem dX3_isEdge_26 : decode cX3_isEdge 26 = .ok (.ireturn, 1) := by decide +kernel
theorem dX3_edges_0 : decode cX3_edges 0 = .ok (.iconst 0, 1) := by decide +kernel
theorem dX3_edges_1 : decode cX3_edges 1 = .ok (.istore_n 1, 1) := by decide +kernel
theorem dX3_edges_2 : decode cX3_edges 2 = .ok (.iconst 0, 1) := by decide +kernel
theorem dX3_edges_3 : decode cX3_edges 3 = .ok (.istore_n 2, 1) := by decide +kernel
theorem dX3_edges_4 : decode cX3_edges 4 = .ok (.iload_n 2, 1) := by decide +kernel
theorem dX3_edges_5 : decode cX3_edges 5 = .ok (.bipush 64, 2) := by decide +kernel
theorem dX3_edges_7 : decode cX3_edges 7 = .ok (.if_icmp .ge 29, 3) := by decide +kernel
theorem dX3_edges_10 : decode cX3_edges 10 = .ok (.iload_n 1, 1) := by decide +kernel
theorem dX3_edges_11 : decode cX3_edges 11 = .ok (.aload_n 0, 1) := by decide +kernel
theorem dX3_edges_12 : decode cX3_edges 12 = .ok (.getfield 7, 3) := by decide +kernel
theorem dX3_edges_15 : decode cX3_edges 15 = .ok (.bipush 24, 2) := by decide +kernel
theorem dX3_edges_17 : decode cX3_edges 17 = .ok (.iload_n 2, 1) := by decide +kernel
theorem dX3_edges_18 : decode cX3_edges 18 = .ok (.iadd, 1) := by decide +kernel
theorem dX3_edges_19 : decode cX3_edges 19 = .ok (.iaload, 1) := by decide +kernel
theorem dX3_edges_20 : decode cX3_edges 20 = .ok (.ifCond .lt 7, 3) := by decide +kernel
theorem dX3_edges_23 : decode cX3_edges 23 = .ok (.iconst 1, 1) := by decide +kernel
theorem dX3_edges_24 : decode cX3_edges 24 = .ok (.goto 4, 3) := by decide +kernel
theorem dX3_edges_27 : decode cX3_edges 27 = .ok (.iconst 0, 1) := by decide +kernel
theorem dX3_edges_28 : decode cX3_edges 28 = .ok (.iadd, 1) := by decide +kernel
theorem dX3_edges_29 : decode cX3_edges 29 = .ok (.istore_n 1, 1) := by decide +kernel
theorem dX3_edges_30 : decode cX3_edges 30 = .ok (.iinc 2 1, 3) := by decide +kernel
theorem dX3_edges_33 : decode cX3_edges 33 = .ok (.goto (-29), 3) := by decide +kernel
theorem dX3_edges_36 : decode cX3_edges 36 = .ok (.iload_n 1, 1) := by decide +kernel
theorem dX3_edges_37 : decode cX3_edges 37 = .ok (.ireturn, 1) := by decide +kernel
set_option maxRecDepth 20000 in
theorem ggX3_edgesOf_X3_isEdge : GoodIn wsX3_edgesOf wsX3_isEdge := goodIn_r _ [5, 6, 7, 8, 4, 9, 10, 11, 12, 13, 14, 15, 16, 17, 18, 19, 20] (by decide +kernel) (by decide +kernel)
set_option maxRecDepth 20000 in
theorem gX3_edgesOf_X3_isEdge : GoodIn wsX3_edgesOf (wsV RX3 44 RX3 yX3_isEdge wsX3_isEdge) := goodIn_app (goodIn_of _ (by decide +kernel)) ggX3_edgesOf_X3_isEdge
theorem dX3_edgesOf_0 : decode cX3_edgesOf 0 = .ok (.iconst 0, 1) := by decide +kernel
theorem dX3_edgesOf_1 : decode cX3_edgesOf 1 = .ok (.istore_n 2, 1) := by decide +kernel
theorem dX3_edgesOf_2 : decode cX3_edgesOf 2 = .ok (.iconst 0, 1) := by decide +kernel
theorem dX3_edgesOf_3 : decode cX3_edgesOf 3 = .ok (.istore_n 3, 1) := by decide +kernel
theorem dX3_edgesOf_4 : decode cX3_edgesOf 4 = .ok (.iload_n 3, 1) := by decide +kernel
theorem dX3_edgesOf_5 : decode cX3_edgesOf 5 = .ok (.bipush 8, 2) := by decide +kernel
theorem dX3_edgesOf_7 : decode cX3_edgesOf 7 = .ok (.if_icmp .ge 26, 3) := by decide +kernel
theorem dX3_edgesOf_10 : decode cX3_edgesOf 10 = .ok (.iload_n 2, 1) := by decide +kernel
theorem dX3_edgesOf_11 : decode cX3_edgesOf 11 = .ok (.aload_n 0, 1) := by decide +kernel
theorem dX3_edgesOf_12 : decode cX3_edgesOf 12 = .ok (.iload_n 1, 1) := by decide +kernel
theorem dX3_edgesOf_13 : decode cX3_edgesOf 13 = .ok (.iload_n 3, 1) := by decide +kernel
theorem dX3_edgesOf_14 : decode cX3_edgesOf 14 = .ok (.invokevirtual 44, 3) := by decide +kernel
theorem dX3_edgesOf_17 : decode cX3_edgesOf 17 = .ok (.ifCond .eq 7, 3) := by decide +kernel
theorem dX3_edgesOf_20 : decode cX3_edgesOf 20 = .ok (.iconst 1, 1) := by decide +kernel
theorem dX3_edgesOf_21 : decode cX3_edgesOf 21 = .ok (.goto 4, 3) := by decide +kernel
theorem dX3_edgesOf_24 : decode cX3_edgesOf 24 = .ok (.iconst 0, 1) := by decide +kernel
theorem dX3_edgesOf_25 : decode cX3_edgesOf 25 = .ok (.iadd, 1) := by decide +kernel
theorem dX3_edgesOf_26 : decode cX3_edgesOf 26 = .ok (.istore_n 2, 1) := by decide +kernel
theorem dX3_edgesOf_27 : decode cX3_edgesOf 27 = .ok (.iinc 3 1, 3) := by decide +kernel
theorem dX3_edgesOf_30 : decode cX3_edgesOf 30 = .ok (.goto (-26), 3) := by decide +kernel
theorem dX3_edgesOf_33 : decode cX3_edgesOf 33 = .ok (.iload_n 2, 1) := by decide +kernel
theorem dX3_edgesOf_34 : decode cX3_edgesOf 34 = .ok (.ireturn, 1) := by decide +kernel
set_option maxRecDepth 20000 in
theorem ggX3_node_X3_isNode : GoodIn wsX3_node wsX3_isNode := goodIn_r _ [5, 6, 7, 4, 8] (by decide +kernel) (by decide +kernel)
set_option maxRecDepth 20000 in
theorem gX3_node_X3_isNode : GoodIn wsX3_node (va_wsS RX3 48 yX3_isNode wsX3_isNode) := goodIn_app (goodIn_of _ (by decide +kernel)) ggX3_node_X3_isNode
set_option maxRecDepth 20000 in
theorem ggX3_node_X3_in : GoodIn wsX3_node wsX3_in := goodIn_r _ [8] (by decide +kernel) (by decide +kernel)
set_option maxRecDepth 20000 in
theorem gX3_node_X3_in : GoodIn wsX3_node (va_wsS RX3 36 yX3_in wsX3_in) := goodIn_app (goodIn_of _ (by decide +kernel)) ggX3_node_X3_in
theorem dX3_node_0 : decode cX3_node 0 = .ok (.iload_n 1, 1) := by decide +kernel
theorem dX3_node_1 : decode cX3_node 1 = .ok (.invokestatic 48, 3) := by decide +kernel
theorem dX3_node_4 : decode cX3_node 4 = .ok (.ifCond .ne 5, 3) := by decide +kernel
theorem dX3_node_7 : decode cX3_node 7 = .ok (.iconst (-1), 1) := by decide +kernel
theorem dX3_node_8 : decode cX3_node 8 = .ok (.ireturn, 1) := by decide +kernel
theorem dX3_node_9 : decode cX3_node 9 = .ok (.iload_n 2, 1) := by decide +kernel
theorem dX3_node_10 : decode cX3_node 10 = .ok (.iconst 1, 1) := by decide +kernel
theorem dX3_node_11 : decode cX3_node 11 = .ok (.iconst 4, 1) := by decide +kernel
theorem dX3_node_12 : decode cX3_node 12 = .ok (.invokestatic 36, 3) := by decide +kernel
theorem dX3_node_15 : decode cX3_node 15 = .ok (.ifCond .eq 14, 3) := by decide +kernel
theorem dX3_node_18 : decode cX3_node 18 = .ok (.iload_n 3, 1) := by decide +kernel
theorem dX3_node_19 : decode cX3_node 19 = .ok (.iconst 0, 1) := by decide +kernel
theorem dX3_node_20 : decode cX3_node 20 = .ok (.sipush 999, 3) := by decide +kernel
theorem dX3_node_23 : decode cX3_node 23 = .ok (.invokestatic 36, 3) := by decide +kernel
theorem dX3_node_26 : decode cX3_node 26 = .ok (.ifCond .ne 6, 3) := by decide +kernel
theorem dX3_node_29 : decode cX3_node 29 = .ok (.bipush (-2), 2) := by decide +kernel
theorem dX3_node_31 : decode cX3_node 31 = .ok (.ireturn, 1) := by decide +kernel
theorem dX3_node_32 : decode cX3_node 32 = .ok (.aload_n 0, 1) := by decide +kernel
theorem dX3_node_33 : decode cX3_node 33 = .ok (.getfield 7, 3) := by decide +kernel
theorem dX3_node_36 : decode cX3_node 36 = .ok (.bipush 8, 2) := by decide +kernel
theorem dX3_node_38 : decode cX3_node 38 = .ok (.iload_n 1, 1) := by decide +kernel
theorem dX3_node_39 : decode cX3_node 39 = .ok (.iadd, 1) := by decide +kernel
theorem dX3_node_40 : decode cX3_node 40 = .ok (.iaload, 1) := by decide +kernel
theorem dX3_node_41 : decode cX3_node 41 = .ok (.istore 4, 2) := by decide +kernel
theorem dX3_node_43 : decode cX3_node 43 = .ok (.aload_n 0, 1) := by decide +kernel
theorem dX3_node_44 : decode cX3_node 44 = .ok (.getfield 7, 3) := by decide +kernel
theorem dX3_node_47 : decode cX3_node 47 = .ok (.iconst 0, 1) := by decide +kernel
theorem dX3_node_48 : decode cX3_node 48 = .ok (.iload_n 1, 1) := by decide +kernel
theorem dX3_node_49 : decode cX3_node 49 = .ok (.iadd, 1) := by decide +kernel
theorem dX3_node_50 : decode cX3_node 50 = .ok (.iload_n 2, 1) := by decide +kernel
theorem dX3_node_51 : decode cX3_node 51 = .ok (.iastore, 1) := by decide +kernel
theorem dX3_node_52 : decode cX3_node 52 = .ok (.aload_n 0, 1) := by decide +kernel
theorem dX3_node_53 : decode cX3_node 53 = .ok (.getfield 7, 3) := by decide +kernel
theorem dX3_node_56 : decode cX3_node 56 = .ok (.bipush 8, 2) := by decide +kernel
theorem dX3_node_58 : decode cX3_node 58 = .ok (.iload_n 1, 1) := by decide +kernel
theorem dX3_node_59 : decode cX3_node 59 = .ok (.iadd, 1) := by decide +kernel
theorem dX3_node_60 : decode cX3_node 60 = .ok (.iload_n 3, 1) := by decide +kernel
theorem dX3_node_61 : decode cX3_node 61 = .ok (.iastore, 1) := by decide +kernel
theorem dX3_node_62 : decode cX3_node 62 = .ok (.iload 4, 2) := by decide +kernel
theorem dX3_node_64 : decode cX3_node 64 = .ok (.sipush 10000, 3) := by decide +kernel
theorem dX3_node_67 : decode cX3_node 67 = .ok (.iadd, 1) := by decide +kernel
theorem dX3_node_68 : decode cX3_node 68 = .ok (.ireturn, 1) := by decide +kernel
set_option maxRecDepth 20000 in
theorem ggX3_lay_X3_pair : GoodIn wsX3_lay wsX3_pair := goodIn_r _ [5] (by decide +kernel) (by decide +kernel)
set_option maxRecDepth 20000 in
theorem gX3_lay_X3_pair : GoodIn wsX3_lay (va_wsS RX3 40 yX3_pair wsX3_pair) := goodIn_app (goodIn_of _ (by decide +kernel)) ggX3_lay_X3_pair
theorem dX3_lay_0 : decode cX3_lay 0 = .ok (.aload_n 0, 1) := by decide +kernel
theorem dX3_lay_1 : decode cX3_lay 1 = .ok (.getfield 7, 3) := by decide +kernel
theorem dX3_lay_4 : decode cX3_lay 4 = .ok (.bipush 24, 2) := by decide +kernel
theorem dX3_lay_6 : decode cX3_lay 6 = .ok (.iload_n 1, 1) := by decide +kernel
theorem dX3_lay_7 : decode cX3_lay 7 = .ok (.iload_n 2, 1) := by decide +kernel
theorem dX3_lay_8 : decode cX3_lay 8 = .ok (.invokestatic 40, 3) := by decide +kernel
theorem dX3_lay_11 : decode cX3_lay 11 = .ok (.iadd, 1) := by decide +kernel
theorem dX3_lay_12 : decode cX3_lay 12 = .ok (.iload_n 3, 1) := by decide +kernel
theorem dX3_lay_13 : decode cX3_lay 13 = .ok (.ifCond .ge 8, 3) := by decide +kernel
theorem dX3_lay_16 : decode cX3_lay 16 = .ok (.bipush (-6), 2) := by decide +kernel
theorem dX3_lay_18 : decode cX3_lay 18 = .ok (.goto 4, 3) := by decide +kernel
theorem dX3_lay_21 : decode cX3_lay 21 = .ok (.iload_n 3, 1) := by decide +kernel
theorem dX3_lay_22 : decode cX3_lay 22 = .ok (.iastore, 1) := by decide +kernel
theorem dX3_lay_23 : decode cX3_lay 23 = .ok (.aload_n 0, 1) := by decide +kernel
theorem dX3_lay_24 : decode cX3_lay 24 = .ok (.getfield 7, 3) := by decide +kernel
theorem dX3_lay_27 : decode cX3_lay 27 = .ok (.bipush 88, 2) := by decide +kernel
theorem dX3_lay_29 : decode cX3_lay 29 = .ok (.iload_n 1, 1) := by decide +kernel
theorem dX3_lay_30 : decode cX3_lay 30 = .ok (.iload_n 2, 1) := by decide +kernel
theorem dX3_lay_31 : decode cX3_lay 31 = .ok (.invokestatic 40, 3) := by decide +kernel
theorem dX3_lay_34 : decode cX3_lay 34 = .ok (.iadd, 1) := by decide +kernel
theorem dX3_lay_35 : decode cX3_lay 35 = .ok (.iconst 0, 1) := by decide +kernel
theorem dX3_lay_36 : decode cX3_lay 36 = .ok (.iastore, 1) := by decide +kernel
theorem dX3_lay_37 : decode cX3_lay 37 = .ok (.return_, 1) := by decide +kernel
set_option maxRecDepth 20000 in
theorem ggX3_edge_X3_isNode : GoodIn wsX3_edge wsX3_isNode := goodIn_r _ [4, 5, 6, 3, 7] (by decide +kernel) (by decide +kernel)
set_option maxRecDepth 20000 in
theorem gX3_edge_X3_isNode : GoodIn wsX3_edge (va_wsS RX3 48 yX3_isNode wsX3_isNode) := goodIn_app (goodIn_of _ (by decide +kernel)) ggX3_edge_X3_isNode
set_option maxRecDepth 20000 in
theorem ggX3_edge_X3_in : GoodIn wsX3_edge wsX3_in := goodIn_r _ [7] (by decide +kernel) (by decide +kernel)
set_option maxRecDepth 20000 in
theorem gX3_edge_X3_in : GoodIn wsX3_edge (va_wsS RX3 36 yX3_in wsX3_in) := goodIn_app (goodIn_of _ (by decide +kernel)) ggX3_edge_X3_in
set_option maxRecDepth 20000 in
theorem ggX3_edge_X3_isEdge : GoodIn wsX3_edge wsX3_isEdge := goodIn_r _ [11, 12, 13, 14, 3, 15, 24, 25, 26, 27, 28, 29, 30, 31, 32, 33, 34] (by decide +kernel) (by decide +kernel)
set_option maxRecDepth 20000 in
theorem gX3_edge_X3_isEdge : GoodIn wsX3_edge (wsV RX3 44 RX3 yX3_isEdge wsX3_isEdge) := goodIn_app (goodIn_of _ (by decide +kernel)) ggX3_edge_X3_isEdge
set_option maxRecDepth 20000 in
theorem ggX3_edge_X3_edges : GoodIn wsX3_edge wsX3_edges := goodIn_r _ [19, 12, 24, 25, 26, 27, 28, 29, 30, 31, 32, 33, 34] (by decide +kernel) (by decide +kernel)
set_option maxRecDepth 20000 in
theorem gX3_edge_X3_edges : GoodIn wsX3_edge (wsV RX3 52 RX3 yX3_edges wsX3_edges) := goodIn_app (goodIn_of _ (by decide +kernel)) ggX3_edge_X3_edges
set_option maxRecDepth 20000 in
theorem ggX3_edge_X3_lay : GoodIn wsX3_edge wsX3_lay := goodIn_r _ [23, 12, 13, 14, 3, 15, 24, 25, 26, 27, 28, 29, 30, 31, 32, 33, 34] (by decide +kernel) (by decide +kernel)
set_option maxRecDepth 20000 in
theorem gX3_edge_X3_lay : GoodIn wsX3_edge (wsV RX3 56 RX3 yX3_lay wsX3_lay) := goodIn_app (goodIn_of _ (by decide +kernel)) ggX3_edge_X3_lay
theorem dX3_edge_0 : decode cX3_edge 0 = .ok (.iload_n 1, 1) := by decide +kernel
theorem dX3_edge_1 : decode cX3_edge 1 = .ok (.invokestatic 48, 3) := by decide +kernel
theorem dX3_edge_4 : decode cX3_edge 4 = .ok (.ifCond .eq 10, 3) := by decide +kernel
theorem dX3_edge_7 : decode cX3_edge 7 = .ok (.iload_n 2, 1) := by decide +kernel
theorem dX3_edge_8 : decode cX3_edge 8 = .ok (.invokestatic 48, 3) := by decide +kernel
theorem dX3_edge_11 : decode cX3_edge 11 = .ok (.ifCond .ne 5, 3) := by decide +kernel
theorem dX3_edge_14 : decode cX3_edge 14 = .ok (.iconst (-1), 1) := by decide +kernel
theorem dX3_edge_15 : decode cX3_edge 15 = .ok (.ireturn, 1) := by decide +kernel
theorem dX3_edge_16 : decode cX3_edge 16 = .ok (.iload_n 1, 1) := by decide +kernel
theorem dX3_edge_17 : decode cX3_edge 17 = .ok (.iload_n 2, 1) := by decide +kernel
theorem dX3_edge_18 : decode cX3_edge 18 = .ok (.if_icmp .eq 12, 3) := by decide +kernel
theorem dX3_edge_21 : decode cX3_edge 21 = .ok (.iload_n 3, 1) := by decide +kernel
theorem dX3_edge_22 : decode cX3_edge 22 = .ok (.iconst (-1), 1) := by decide +kernel
theorem dX3_edge_23 : decode cX3_edge 23 = .ok (.iconst 3, 1) := by decide +kernel
theorem dX3_edge_24 : decode cX3_edge 24 = .ok (.invokestatic 36, 3) := by decide +kernel
theorem dX3_edge_27 : decode cX3_edge 27 = .ok (.ifCond .ne 6, 3) := by decide +kernel
theorem dX3_edge_30 : decode cX3_edge 30 = .ok (.bipush (-2), 2) := by decide +kernel
theorem dX3_edge_32 : decode cX3_edge 32 = .ok (.ireturn, 1) := by decide +kernel
theorem dX3_edge_33 : decode cX3_edge 33 = .ok (.iload_n 3, 1) := by decide +kernel
theorem dX3_edge_34 : decode cX3_edge 34 = .ok (.ifCond .lt 24, 3) := by decide +kernel
theorem dX3_edge_37 : decode cX3_edge 37 = .ok (.aload_n 0, 1) := by decide +kernel
theorem dX3_edge_38 : decode cX3_edge 38 = .ok (.iload_n 1, 1) := by decide +kernel
theorem dX3_edge_39 : decode cX3_edge 39 = .ok (.iload_n 2, 1) := by decide +kernel
theorem dX3_edge_40 : decode cX3_edge 40 = .ok (.invokevirtual 44, 3) := by decide +kernel
theorem dX3_edge_43 : decode cX3_edge 43 = .ok (.ifCond .ne 15, 3) := by decide +kernel
theorem dX3_edge_46 : decode cX3_edge 46 = .ok (.aload_n 0, 1) := by decide +kernel
theorem dX3_edge_47 : decode cX3_edge 47 = .ok (.invokevirtual 52, 3) := by decide +kernel
theorem dX3_edge_50 : decode cX3_edge 50 = .ok (.bipush 12, 2) := by decide +kernel
theorem dX3_edge_52 : decode cX3_edge 52 = .ok (.if_icmp .ne 6, 3) := by decide +kernel
theorem dX3_edge_55 : decode cX3_edge 55 = .ok (.bipush (-4), 2) := by decide +kernel
theorem dX3_edge_57 : decode cX3_edge 57 = .ok (.ireturn, 1) := by decide +kernel
theorem dX3_edge_58 : decode cX3_edge 58 = .ok (.aload_n 0, 1) := by decide +kernel
theorem dX3_edge_59 : decode cX3_edge 59 = .ok (.iload_n 1, 1) := by decide +kernel
theorem dX3_edge_60 : decode cX3_edge 60 = .ok (.iload_n 2, 1) := by decide +kernel
theorem dX3_edge_61 : decode cX3_edge 61 = .ok (.iload_n 3, 1) := by decide +kernel
theorem dX3_edge_62 : decode cX3_edge 62 = .ok (.invokevirtual 56, 3) := by decide +kernel
theorem dX3_edge_65 : decode cX3_edge 65 = .ok (.aload_n 0, 1) := by decide +kernel
theorem dX3_edge_66 : decode cX3_edge 66 = .ok (.invokevirtual 52, 3) := by decide +kernel
theorem dX3_edge_69 : decode cX3_edge 69 = .ok (.ireturn, 1) := by decide +kernel
set_option maxRecDepth 20000 in
theorem ggX3_say_X3_in : GoodIn wsX3_say wsX3_in := goodIn_r _ [6] (by decide +kernel) (by decide +kernel)
set_option maxRecDepth 20000 in
theorem gX3_say_X3_in : GoodIn wsX3_say (va_wsS RX3 36 yX3_in wsX3_in) := goodIn_app (goodIn_of _ (by decide +kernel)) ggX3_say_X3_in
theorem dX3_say_0 : decode cX3_say 0 = .ok (.iload_n 1, 1) := by decide +kernel
theorem dX3_say_1 : decode cX3_say 1 = .ok (.bipush 33, 2) := by decide +kernel
theorem dX3_say_3 : decode cX3_say 3 = .ok (.bipush 126, 2) := by decide +kernel
theorem dX3_say_5 : decode cX3_say 5 = .ok (.invokestatic 36, 3) := by decide +kernel
theorem dX3_say_8 : decode cX3_say 8 = .ok (.ifCond .ne 6, 3) := by decide +kernel
theorem dX3_say_11 : decode cX3_say 11 = .ok (.bipush (-2), 2) := by decide +kernel
theorem dX3_say_13 : decode cX3_say 13 = .ok (.ireturn, 1) := by decide +kernel
theorem dX3_say_14 : decode cX3_say 14 = .ok (.aload_n 0, 1) := by decide +kernel
theorem dX3_say_15 : decode cX3_say 15 = .ok (.getfield 60, 3) := by decide +kernel
theorem dX3_say_18 : decode cX3_say 18 = .ok (.bipush 40, 2) := by decide +kernel
theorem dX3_say_20 : decode cX3_say 20 = .ok (.if_icmp .ne 6, 3) := by decide +kernel
theorem dX3_say_23 : decode cX3_say 23 = .ok (.bipush (-4), 2) := by decide +kernel
theorem dX3_say_25 : decode cX3_say 25 = .ok (.ireturn, 1) := by decide +kernel
theorem dX3_say_26 : decode cX3_say 26 = .ok (.aload_n 0, 1) := by decide +kernel
theorem dX3_say_27 : decode cX3_say 27 = .ok (.getfield 20, 3) := by decide +kernel
theorem dX3_say_30 : decode cX3_say 30 = .ok (.aload_n 0, 1) := by decide +kernel
theorem dX3_say_31 : decode cX3_say 31 = .ok (.getfield 60, 3) := by decide +kernel
theorem dX3_say_34 : decode cX3_say 34 = .ok (.iload_n 1, 1) := by decide +kernel
theorem dX3_say_35 : decode cX3_say 35 = .ok (.iastore, 1) := by decide +kernel
theorem dX3_say_36 : decode cX3_say 36 = .ok (.aload_n 0, 1) := by decide +kernel
theorem dX3_say_37 : decode cX3_say 37 = .ok (.dup, 1) := by decide +kernel
theorem dX3_say_38 : decode cX3_say 38 = .ok (.getfield 60, 3) := by decide +kernel
theorem dX3_say_41 : decode cX3_say 41 = .ok (.iconst 1, 1) := by decide +kernel
theorem dX3_say_42 : decode cX3_say 42 = .ok (.iadd, 1) := by decide +kernel
theorem dX3_say_43 : decode cX3_say 43 = .ok (.putfield 60, 3) := by decide +kernel
theorem dX3_say_46 : decode cX3_say 46 = .ok (.aload_n 0, 1) := by decide +kernel
theorem dX3_say_47 : decode cX3_say 47 = .ok (.getfield 60, 3) := by decide +kernel
theorem dX3_say_50 : decode cX3_say 50 = .ok (.ireturn, 1) := by decide +kernel
theorem dX3_wipe_0 : decode cX3_wipe 0 = .ok (.aload_n 0, 1) := by decide +kernel
theorem dX3_wipe_1 : decode cX3_wipe 1 = .ok (.getfield 60, 3) := by decide +kernel
theorem dX3_wipe_4 : decode cX3_wipe 4 = .ok (.istore_n 1, 1) := by decide +kernel
theorem dX3_wipe_5 : decode cX3_wipe 5 = .ok (.aload_n 0, 1) := by decide +kernel
theorem dX3_wipe_6 : decode cX3_wipe 6 = .ok (.iconst 0, 1) := by decide +kernel
theorem dX3_wipe_7 : decode cX3_wipe 7 = .ok (.putfield 60, 3) := by decide +kernel
theorem dX3_wipe_10 : decode cX3_wipe 10 = .ok (.iload_n 1, 1) := by decide +kernel
theorem dX3_wipe_11 : decode cX3_wipe 11 = .ok (.ireturn, 1) := by decide +kernel
set_option maxRecDepth 20000 in
theorem ggX3_letter_X3_in : GoodIn wsX3_letter wsX3_in := goodIn_r _ [5] (by decide +kernel) (by decide +kernel)
set_option maxRecDepth 20000 in
theorem gX3_letter_X3_in : GoodIn wsX3_letter (va_wsS RX3 36 yX3_in wsX3_in) := goodIn_app (goodIn_of _ (by decide +kernel)) ggX3_letter_X3_in
theorem dX3_letter_0 : decode cX3_letter 0 = .ok (.aload_n 0, 1) := by decide +kernel
theorem dX3_letter_1 : decode cX3_letter 1 = .ok (.getfield 20, 3) := by decide +kernel
theorem dX3_letter_4 : decode cX3_letter 4 = .ok (.iload_n 1, 1) := by decide +kernel
theorem dX3_letter_5 : decode cX3_letter 5 = .ok (.iaload, 1) := by decide +kernel
theorem dX3_letter_6 : decode cX3_letter 6 = .ok (.bipush 97, 2) := by decide +kernel
theorem dX3_letter_8 : decode cX3_letter 8 = .ok (.bipush 104, 2) := by decide +kernel
theorem dX3_letter_10 : decode cX3_letter 10 = .ok (.invokestatic 36, 3) := by decide +kernel
theorem dX3_letter_13 : decode cX3_letter 13 = .ok (.ifCond .eq 15, 3) := by decide +kernel
theorem dX3_letter_16 : decode cX3_letter 16 = .ok (.aload_n 0, 1) := by decide +kernel
theorem dX3_letter_17 : decode cX3_letter 17 = .ok (.getfield 20, 3) := by decide +kernel
theorem dX3_letter_20 : decode cX3_letter 20 = .ok (.iload_n 1, 1) := by decide +kernel
theorem dX3_letter_21 : decode cX3_letter 21 = .ok (.iaload, 1) := by decide +kernel
theorem dX3_letter_22 : decode cX3_letter 22 = .ok (.bipush 97, 2) := by decide +kernel
theorem dX3_letter_24 : decode cX3_letter 24 = .ok (.isub, 1) := by decide +kernel
theorem dX3_letter_25 : decode cX3_letter 25 = .ok (.goto 5, 3) := by decide +kernel
theorem dX3_letter_28 : decode cX3_letter 28 = .ok (.bipush (-6), 2) := by decide +kernel
theorem dX3_letter_30 : decode cX3_letter 30 = .ok (.ireturn, 1) := by decide +kernel
set_option maxRecDepth 20000 in
theorem ggX3_isNew_X3_letter : GoodIn wsX3_isNew wsX3_letter := goodIn_r _ [5, 6, 7, 8, 4, 9, 13, 14, 15, 16, 17, 18, 19, 20, 21, 22, 23] (by decide +kernel) (by decide +kernel)
set_option maxRecDepth 20000 in
theorem gX3_isNew_X3_letter : GoodIn wsX3_isNew (wsV RX3 64 RX3 yX3_letter wsX3_letter) := goodIn_app (goodIn_of _ (by decide +kernel)) ggX3_isNew_X3_letter
set_option maxRecDepth 20000 in
theorem ggX3_isNew_X3_pair : GoodIn wsX3_isNew wsX3_pair := goodIn_r _ [12] (by decide +kernel) (by decide +kernel)
set_option maxRecDepth 20000 in
theorem gX3_isNew_X3_pair : GoodIn wsX3_isNew (va_wsS RX3 40 yX3_pair wsX3_pair) := goodIn_app (goodIn_of _ (by decide +kernel)) ggX3_isNew_X3_pair
theorem dX3_isNew_0 : decode cX3_isNew 0 = .ok (.aload_n 0, 1) := by decide +kernel
theorem dX3_isNew_1 : decode cX3_isNew 1 = .ok (.iload_n 1, 1) := by decide +kernel
theorem dX3_isNew_2 : decode cX3_isNew 2 = .ok (.iconst 1, 1) := by decide +kernel
theorem dX3_isNew_3 : decode cX3_isNew 3 = .ok (.isub, 1) := by decide +kernel
theorem dX3_isNew_4 : decode cX3_isNew 4 = .ok (.invokevirtual 64, 3) := by decide +kernel
theorem dX3_isNew_7 : decode cX3_isNew 7 = .ok (.istore_n 2, 1) := by decide +kernel
theorem dX3_isNew_8 : decode cX3_isNew 8 = .ok (.aload_n 0, 1) := by decide +kernel
theorem dX3_isNew_9 : decode cX3_isNew 9 = .ok (.iload_n 1, 1) := by decide +kernel
theorem dX3_isNew_10 : decode cX3_isNew 10 = .ok (.invokevirtual 64, 3) := by decide +kernel
theorem dX3_isNew_13 : decode cX3_isNew 13 = .ok (.istore_n 3, 1) := by decide +kernel
theorem dX3_isNew_14 : decode cX3_isNew 14 = .ok (.iload_n 3, 1) := by decide +kernel
theorem dX3_isNew_15 : decode cX3_isNew 15 = .ok (.ifCond .lt 8, 3) := by decide +kernel
theorem dX3_isNew_18 : decode cX3_isNew 18 = .ok (.iload_n 2, 1) := by decide +kernel
theorem dX3_isNew_19 : decode cX3_isNew 19 = .ok (.iload_n 3, 1) := by decide +kernel
theorem dX3_isNew_20 : decode cX3_isNew 20 = .ok (.if_icmp .ne 5, 3) := by decide +kernel
theorem dX3_isNew_23 : decode cX3_isNew 23 = .ok (.iconst 0, 1) := by decide +kernel
theorem dX3_isNew_24 : decode cX3_isNew 24 = .ok (.ireturn, 1) := by decide +kernel
theorem dX3_isNew_25 : decode cX3_isNew 25 = .ok (.iconst 1, 1) := by decide +kernel
theorem dX3_isNew_26 : decode cX3_isNew 26 = .ok (.istore 4, 2) := by decide +kernel
theorem dX3_isNew_28 : decode cX3_isNew 28 = .ok (.iconst 1, 1) := by decide +kernel
theorem dX3_isNew_29 : decode cX3_isNew 29 = .ok (.istore 5, 2) := by decide +kernel
theorem dX3_isNew_31 : decode cX3_isNew 31 = .ok (.iload 5, 2) := by decide +kernel
theorem dX3_isNew_33 : decode cX3_isNew 33 = .ok (.iload_n 1, 1) := by decide +kernel
theorem dX3_isNew_34 : decode cX3_isNew 34 = .ok (.if_icmp .ge 46, 3) := by decide +kernel
theorem dX3_isNew_37 : decode cX3_isNew 37 = .ok (.iload 4, 2) := by decide +kernel
theorem dX3_isNew_39 : decode cX3_isNew 39 = .ok (.ifCond .eq 32, 3) := by decide +kernel
theorem dX3_isNew_42 : decode cX3_isNew 42 = .ok (.aload_n 0, 1) := by decide +kernel
theorem dX3_isNew_43 : decode cX3_isNew 43 = .ok (.iload 5, 2) := by decide +kernel
theorem dX3_isNew_45 : decode cX3_isNew 45 = .ok (.iconst 1, 1) := by decide +kernel
theorem dX3_isNew_46 : decode cX3_isNew 46 = .ok (.isub, 1) := by decide +kernel
theorem dX3_isNew_47 : decode cX3_isNew 47 = .ok (.invokevirtual 64, 3) := by decide +kernel
theorem dX3_isNew_50 : decode cX3_isNew 50 = .ok (.aload_n 0, 1) := by decide +kernel
theorem dX3_isNew_51 : decode cX3_isNew 51 = .ok (.iload 5, 2) := by decide +kernel
theorem dX3_isNew_53 : decode cX3_isNew 53 = .ok (.invokevirtual 64, 3) := by decide +kernel
theorem dX3_isNew_56 : decode cX3_isNew 56 = .ok (.invokestatic 40, 3) := by decide +kernel
theorem dX3_isNew_59 : decode cX3_isNew 59 = .ok (.iload_n 2, 1) := by decide +kernel
theorem dX3_isNew_60 : decode cX3_isNew 60 = .ok (.iload_n 3, 1) := by decide +kernel
theorem dX3_isNew_61 : decode cX3_isNew 61 = .ok (.invokestatic 40, 3) := by decide +kernel
theorem dX3_isNew_64 : decode cX3_isNew 64 = .ok (.if_icmp .eq 7, 3) := by decide +kernel
theorem dX3_isNew_67 : decode cX3_isNew 67 = .ok (.iconst 1, 1) := by decide +kernel
theorem dX3_isNew_68 : decode cX3_isNew 68 = .ok (.goto 4, 3) := by decide +kernel
theorem dX3_isNew_71 : decode cX3_isNew 71 = .ok (.iconst 0, 1) := by decide +kernel
theorem dX3_isNew_72 : decode cX3_isNew 72 = .ok (.istore 4, 2) := by decide +kernel
theorem dX3_isNew_74 : decode cX3_isNew 74 = .ok (.iinc 5 3, 3) := by decide +kernel
theorem dX3_isNew_77 : decode cX3_isNew 77 = .ok (.goto (-46), 3) := by decide +kernel
theorem dX3_isNew_80 : decode cX3_isNew 80 = .ok (.iload 4, 2) := by decide +kernel
theorem dX3_isNew_82 : decode cX3_isNew 82 = .ok (.ireturn, 1) := by decide +kernel
set_option maxRecDepth 20000 in
theorem ggX3_canStand_X3_letter : GoodIn wsX3_canStand wsX3_letter := goodIn_r _ [6, 1, 7, 8, 5, 9, 17, 18, 19, 20, 21, 22, 23, 24, 25, 26, 27] (by decide +kernel) (by decide +kernel)
set_option maxRecDepth 20000 in
theorem gX3_canStand_X3_letter : GoodIn wsX3_canStand (wsV RX3 64 RX3 yX3_letter wsX3_letter) := goodIn_app (goodIn_of _ (by decide +kernel)) ggX3_canStand_X3_letter
set_option maxRecDepth 20000 in
theorem ggX3_canStand_X3_isNew : GoodIn wsX3_canStand wsX3_isNew := goodIn_r _ [13, 2, 3, 4, 5, 6, 1, 7, 8, 9, 14, 15, 16, 17, 18, 19, 20, 21, 22, 23, 24, 25, 26, 27] (by decide +kernel) (by decide +kernel)
set_option maxRecDepth 20000 in
theorem gX3_canStand_X3_isNew : GoodIn wsX3_canStand (wsV RX3 68 RX3 yX3_isNew wsX3_isNew) := goodIn_app (goodIn_of _ (by decide +kernel)) ggX3_canStand_X3_isNew
set_option maxRecDepth 20000 in
theorem ggX3_canStand_X3_in : GoodIn wsX3_canStand wsX3_in := goodIn_r _ [9] (by decide +kernel) (by decide +kernel)
set_option maxRecDepth 20000 in
theorem gX3_canStand_X3_in : GoodIn wsX3_canStand (va_wsS RX3 36 yX3_in wsX3_in) := goodIn_app (goodIn_of _ (by decide +kernel)) ggX3_canStand_X3_in
theorem dX3_canStand_0 : decode cX3_canStand 0 = .ok (.iload_n 1, 1) := by decide +kernel
theorem dX3_canStand_1 : decode cX3_canStand 1 = .ok (.iconst 3, 1) := by decide +kernel
theorem dX3_canStand_2 : decode cX3_canStand 2 = .ok (.irem, 1) := by decide +kernel
theorem dX3_canStand_3 : decode cX3_canStand 3 = .ok (.lookupswitch 51 #[(0, 25), (1, 45)], 25) := by decide +kernel
theorem dX3_canStand_28 : decode cX3_canStand 28 = .ok (.aload_n 0, 1) := by decide +kernel
theorem dX3_canStand_29 : decode cX3_canStand 29 = .ok (.iload_n 1, 1) := by decide +kernel
theorem dX3_canStand_30 : decode cX3_canStand 30 = .ok (.invokevirtual 64, 3) := by decide +kernel
theorem dX3_canStand_33 : decode cX3_canStand 33 = .ok (.ifCond .lt 13, 3) := by decide +kernel
theorem dX3_canStand_36 : decode cX3_canStand 36 = .ok (.iload_n 1, 1) := by decide +kernel
theorem dX3_canStand_37 : decode cX3_canStand 37 = .ok (.bipush 36, 2) := by decide +kernel
theorem dX3_canStand_39 : decode cX3_canStand 39 = .ok (.if_icmp .ge 7, 3) := by decide +kernel
theorem dX3_canStand_42 : decode cX3_canStand 42 = .ok (.iconst 1, 1) := by decide +kernel
theorem dX3_canStand_43 : decode cX3_canStand 43 = .ok (.goto 4, 3) := by decide +kernel
theorem dX3_canStand_46 : decode cX3_canStand 46 = .ok (.iconst 0, 1) := by decide +kernel
theorem dX3_canStand_47 : decode cX3_canStand 47 = .ok (.ireturn, 1) := by decide +kernel
theorem dX3_canStand_48 : decode cX3_canStand 48 = .ok (.aload_n 0, 1) := by decide +kernel
theorem dX3_canStand_49 : decode cX3_canStand 49 = .ok (.iload_n 1, 1) := by decide +kernel
theorem dX3_canStand_50 : decode cX3_canStand 50 = .ok (.invokevirtual 68, 3) := by decide +kernel
theorem dX3_canStand_53 : decode cX3_canStand 53 = .ok (.ireturn, 1) := by decide +kernel
theorem dX3_canStand_54 : decode cX3_canStand 54 = .ok (.aload_n 0, 1) := by decide +kernel
theorem dX3_canStand_55 : decode cX3_canStand 55 = .ok (.getfield 20, 3) := by decide +kernel
theorem dX3_canStand_58 : decode cX3_canStand 58 = .ok (.iload_n 1, 1) := by decide +kernel
theorem dX3_canStand_59 : decode cX3_canStand 59 = .ok (.iaload, 1) := by decide +kernel
theorem dX3_canStand_60 : decode cX3_canStand 60 = .ok (.bipush 48, 2) := by decide +kernel
theorem dX3_canStand_62 : decode cX3_canStand 62 = .ok (.bipush 51, 2) := by decide +kernel
theorem dX3_canStand_64 : decode cX3_canStand 64 = .ok (.invokestatic 36, 3) := by decide +kernel
theorem dX3_canStand_67 : decode cX3_canStand 67 = .ok (.ireturn, 1) := by decide +kernel
set_option maxRecDepth 20000 in
theorem ggX3_fault_X3_canStand : GoodIn wsX3_fault wsX3_canStand := goodIn_r _ [6, 7, 8, 9, 10, 5, 11, 12, 13, 14, 15, 16, 17, 18, 19, 20, 21, 22, 23, 24, 25, 26, 27, 28, 29, 30, 31, 32] (by decide +kernel) (by decide +kernel)
set_option maxRecDepth 20000 in
theorem gX3_fault_X3_canStand : GoodIn wsX3_fault (wsV RX3 71 RX3 yX3_canStand wsX3_canStand) := goodIn_app (goodIn_of _ (by decide +kernel)) ggX3_fault_X3_canStand
theorem dX3_fault_0 : decode cX3_fault 0 = .ok (.iconst 0, 1) := by decide +kernel
theorem dX3_fault_1 : decode cX3_fault 1 = .ok (.istore_n 1, 1) := by decide +kernel
theorem dX3_fault_2 : decode cX3_fault 2 = .ok (.iload_n 1, 1) := by decide +kernel
theorem dX3_fault_3 : decode cX3_fault 3 = .ok (.aload_n 0, 1) := by decide +kernel
theorem dX3_fault_4 : decode cX3_fault 4 = .ok (.getfield 60, 3) := by decide +kernel
theorem dX3_fault_7 : decode cX3_fault 7 = .ok (.if_icmp .ge 19, 3) := by decide +kernel
theorem dX3_fault_10 : decode cX3_fault 10 = .ok (.aload_n 0, 1) := by decide +kernel
theorem dX3_fault_11 : decode cX3_fault 11 = .ok (.iload_n 1, 1) := by decide +kernel
theorem dX3_fault_12 : decode cX3_fault 12 = .ok (.invokevirtual 71, 3) := by decide +kernel
theorem dX3_fault_15 : decode cX3_fault 15 = .ok (.ifCond .ne 5, 3) := by decide +kernel
theorem dX3_fault_18 : decode cX3_fault 18 = .ok (.iload_n 1, 1) := by decide +kernel
theorem dX3_fault_19 : decode cX3_fault 19 = .ok (.ireturn, 1) := by decide +kernel
theorem dX3_fault_20 : decode cX3_fault 20 = .ok (.iinc 1 1, 3) := by decide +kernel
theorem dX3_fault_23 : decode cX3_fault 23 = .ok (.goto (-21), 3) := by decide +kernel
theorem dX3_fault_26 : decode cX3_fault 26 = .ok (.aload_n 0, 1) := by decide +kernel
theorem dX3_fault_27 : decode cX3_fault 27 = .ok (.getfield 60, 3) := by decide +kernel
theorem dX3_fault_30 : decode cX3_fault 30 = .ok (.iconst 3, 1) := by decide +kernel
theorem dX3_fault_31 : decode cX3_fault 31 = .ok (.irem, 1) := by decide +kernel
theorem dX3_fault_32 : decode cX3_fault 32 = .ok (.ifCond .ne 8, 3) := by decide +kernel
theorem dX3_fault_35 : decode cX3_fault 35 = .ok (.bipush (-6), 2) := by decide +kernel
theorem dX3_fault_37 : decode cX3_fault 37 = .ok (.goto 7, 3) := by decide +kernel
theorem dX3_fault_40 : decode cX3_fault 40 = .ok (.aload_n 0, 1) := by decide +kernel
theorem dX3_fault_41 : decode cX3_fault 41 = .ok (.getfield 60, 3) := by decide +kernel
theorem dX3_fault_44 : decode cX3_fault 44 = .ok (.ireturn, 1) := by decide +kernel
set_option maxRecDepth 20000 in
theorem ggX3_net_X3_fault : GoodIn wsX3_net wsX3_fault := goodIn_r _ [8, 2, 9, 10, 11, 7, 12, 3, 13, 14, 15, 16, 17, 18, 19, 20, 21, 22, 23, 24, 25, 26, 35, 36, 37, 38, 39, 40, 41, 42, 43, 44, 45] (by decide +kernel) (by decide +kernel)
set_option maxRecDepth 20000 in
theorem gX3_net_X3_fault : GoodIn wsX3_net (wsV RX3 74 RX3 yX3_fault wsX3_fault) := goodIn_app (goodIn_of _ (by decide +kernel)) ggX3_net_X3_fault
set_option maxRecDepth 20000 in
theorem ggX3_net_X3_letter : GoodIn wsX3_net wsX3_letter := goodIn_r _ [16, 3, 17, 18, 7, 19, 35, 36, 37, 38, 39, 40, 41, 42, 43, 44, 45] (by decide +kernel) (by decide +kernel)
set_option maxRecDepth 20000 in
theorem gX3_net_X3_letter : GoodIn wsX3_net (wsV RX3 64 RX3 yX3_letter wsX3_letter) := goodIn_app (goodIn_of _ (by decide +kernel)) ggX3_net_X3_letter
set_option maxRecDepth 20000 in
theorem ggX3_net_X3_lay : GoodIn wsX3_net wsX3_lay := goodIn_r _ [30, 1, 24, 25, 7, 26, 35, 36, 37, 38, 39, 40, 41, 42, 43, 44, 45] (by decide +kernel) (by decide +kernel)
set_option maxRecDepth 20000 in
theorem gX3_net_X3_lay : GoodIn wsX3_net (wsV RX3 56 RX3 yX3_lay wsX3_lay) := goodIn_app (goodIn_of _ (by decide +kernel)) ggX3_net_X3_lay
set_option maxRecDepth 20000 in
theorem ggX3_net_X3_edges : GoodIn wsX3_net wsX3_edges := goodIn_r _ [34, 1, 35, 36, 37, 38, 39, 40, 41, 42, 43, 44, 45] (by decide +kernel) (by decide +kernel)
set_option maxRecDepth 20000 in
theorem gX3_net_X3_edges : GoodIn wsX3_net (wsV RX3 52 RX3 yX3_edges wsX3_edges) := goodIn_app (goodIn_of _ (by decide +kernel)) ggX3_net_X3_edges
theorem dX3_net_0 : decode cX3_net 0 = .ok (.aload_n 0, 1) := by decide +kernel
theorem dX3_net_1 : decode cX3_net 1 = .ok (.invokevirtual 74, 3) := by decide +kernel
theorem dX3_net_4 : decode cX3_net 4 = .ok (.ifCond .lt 6, 3) := by decide +kernel
theorem dX3_net_7 : decode cX3_net 7 = .ok (.bipush (-7), 2) := by decide +kernel
theorem dX3_net_9 : decode cX3_net 9 = .ok (.ireturn, 1) := by decide +kernel
theorem dX3_net_10 : decode cX3_net 10 = .ok (.iconst 0, 1) := by decide +kernel
theorem dX3_net_11 : decode cX3_net 11 = .ok (.istore_n 1, 1) := by decide +kernel
theorem dX3_net_12 : decode cX3_net 12 = .ok (.iload_n 1, 1) := by decide +kernel
theorem dX3_net_13 : decode cX3_net 13 = .ok (.bipush 64, 2) := by decide +kernel
theorem dX3_net_15 : decode cX3_net 15 = .ok (.if_icmp .ge 30, 3) := by decide +kernel
theorem dX3_net_18 : decode cX3_net 18 = .ok (.aload_n 0, 1) := by decide +kernel
theorem dX3_net_19 : decode cX3_net 19 = .ok (.getfield 7, 3) := by decide +kernel
theorem dX3_net_22 : decode cX3_net 22 = .ok (.bipush 24, 2) := by decide +kernel
theorem dX3_net_24 : decode cX3_net 24 = .ok (.iload_n 1, 1) := by decide +kernel
theorem dX3_net_25 : decode cX3_net 25 = .ok (.iadd, 1) := by decide +kernel
theorem dX3_net_26 : decode cX3_net 26 = .ok (.bipush (-6), 2) := by decide +kernel
theorem dX3_net_28 : decode cX3_net 28 = .ok (.iastore, 1) := by decide +kernel
theorem dX3_net_29 : decode cX3_net 29 = .ok (.aload_n 0, 1) := by decide +kernel
theorem dX3_net_30 : decode cX3_net 30 = .ok (.getfield 7, 3) := by decide +kernel
theorem dX3_net_33 : decode cX3_net 33 = .ok (.bipush 88, 2) := by decide +kernel
theorem dX3_net_35 : decode cX3_net 35 = .ok (.iload_n 1, 1) := by decide +kernel
theorem dX3_net_36 : decode cX3_net 36 = .ok (.iadd, 1) := by decide +kernel
theorem dX3_net_37 : decode cX3_net 37 = .ok (.iconst 0, 1) := by decide +kernel
theorem dX3_net_38 : decode cX3_net 38 = .ok (.iastore, 1) := by decide +kernel
theorem dX3_net_39 : decode cX3_net 39 = .ok (.iinc 1 1, 3) := by decide +kernel
theorem dX3_net_42 : decode cX3_net 42 = .ok (.goto (-30), 3) := by decide +kernel
theorem dX3_net_45 : decode cX3_net 45 = .ok (.iconst 0, 1) := by decide +kernel
theorem dX3_net_46 : decode cX3_net 46 = .ok (.istore_n 1, 1) := by decide +kernel
theorem dX3_net_47 : decode cX3_net 47 = .ok (.iload_n 1, 1) := by decide +kernel
theorem dX3_net_48 : decode cX3_net 48 = .ok (.aload_n 0, 1) := by decide +kernel
theorem dX3_net_49 : decode cX3_net 49 = .ok (.getfield 60, 3) := by decide +kernel
theorem dX3_net_52 : decode cX3_net 52 = .ok (.if_icmp .ge 36, 3) := by decide +kernel
theorem dX3_net_55 : decode cX3_net 55 = .ok (.aload_n 0, 1) := by decide +kernel
theorem dX3_net_56 : decode cX3_net 56 = .ok (.aload_n 0, 1) := by decide +kernel
theorem dX3_net_57 : decode cX3_net 57 = .ok (.iload_n 1, 1) := by decide +kernel
theorem dX3_net_58 : decode cX3_net 58 = .ok (.invokevirtual 64, 3) := by decide +kernel
theorem dX3_net_61 : decode cX3_net 61 = .ok (.aload_n 0, 1) := by decide +kernel
theorem dX3_net_62 : decode cX3_net 62 = .ok (.iload_n 1, 1) := by decide +kernel
theorem dX3_net_63 : decode cX3_net 63 = .ok (.iconst 1, 1) := by decide +kernel
theorem dX3_net_64 : decode cX3_net 64 = .ok (.iadd, 1) := by decide +kernel
theorem dX3_net_65 : decode cX3_net 65 = .ok (.invokevirtual 64, 3) := by decide +kernel
theorem dX3_net_68 : decode cX3_net 68 = .ok (.aload_n 0, 1) := by decide +kernel
theorem dX3_net_69 : decode cX3_net 69 = .ok (.getfield 20, 3) := by decide +kernel
theorem dX3_net_72 : decode cX3_net 72 = .ok (.iload_n 1, 1) := by decide +kernel
theorem dX3_net_73 : decode cX3_net 73 = .ok (.iconst 2, 1) := by decide +kernel
theorem dX3_net_74 : decode cX3_net 74 = .ok (.iadd, 1) := by decide +kernel
theorem dX3_net_75 : decode cX3_net 75 = .ok (.iaload, 1) := by decide +kernel
theorem dX3_net_76 : decode cX3_net 76 = .ok (.bipush 48, 2) := by decide +kernel
theorem dX3_net_78 : decode cX3_net 78 = .ok (.isub, 1) := by decide +kernel
theorem dX3_net_79 : decode cX3_net 79 = .ok (.invokevirtual 56, 3) := by decide +kernel
theorem dX3_net_82 : decode cX3_net 82 = .ok (.iinc 1 3, 3) := by decide +kernel
theorem dX3_net_85 : decode cX3_net 85 = .ok (.goto (-38), 3) := by decide +kernel
theorem dX3_net_88 : decode cX3_net 88 = .ok (.aload_n 0, 1) := by decide +kernel
theorem dX3_net_89 : decode cX3_net 89 = .ok (.iconst 0, 1) := by decide +kernel
theorem dX3_net_90 : decode cX3_net 90 = .ok (.putfield 60, 3) := by decide +kernel
theorem dX3_net_93 : decode cX3_net 93 = .ok (.aload_n 0, 1) := by decide +kernel
theorem dX3_net_94 : decode cX3_net 94 = .ok (.invokevirtual 52, 3) := by decide +kernel
theorem dX3_net_97 : decode cX3_net 97 = .ok (.ireturn, 1) := by decide +kernel
set_option maxRecDepth 20000 in
theorem ggX3_jobs_X3_isNode : GoodIn wsX3_jobs wsX3_isNode := goodIn_r _ [5, 6, 7, 4, 8] (by decide +kernel) (by decide +kernel)
set_option maxRecDepth 20000 in
theorem gX3_jobs_X3_isNode : GoodIn wsX3_jobs (va_wsS RX3 48 yX3_isNode wsX3_isNode) := goodIn_app (goodIn_of _ (by decide +kernel)) ggX3_jobs_X3_isNode
theorem dX3_jobs_0 : decode cX3_jobs 0 = .ok (.iload_n 1, 1) := by decide +kernel
theorem dX3_jobs_1 : decode cX3_jobs 1 = .ok (.invokestatic 48, 3) := by decide +kernel
theorem dX3_jobs_4 : decode cX3_jobs 4 = .ok (.ifCond .eq 19, 3) := by decide +kernel
theorem dX3_jobs_7 : decode cX3_jobs 7 = .ok (.aload_n 0, 1) := by decide +kernel
theorem dX3_jobs_8 : decode cX3_jobs 8 = .ok (.getfield 7, 3) := by decide +kernel
theorem dX3_jobs_11 : decode cX3_jobs 11 = .ok (.bipush 8, 2) := by decide +kernel
theorem dX3_jobs_13 : decode cX3_jobs 13 = .ok (.iload_n 1, 1) := by decide +kernel
theorem dX3_jobs_14 : decode cX3_jobs 14 = .ok (.iadd, 1) := by decide +kernel
theorem dX3_jobs_15 : decode cX3_jobs 15 = .ok (.iaload, 1) := by decide +kernel
theorem dX3_jobs_16 : decode cX3_jobs 16 = .ok (.sipush 10000, 3) := by decide +kernel
theorem dX3_jobs_19 : decode cX3_jobs 19 = .ok (.iadd, 1) := by decide +kernel
theorem dX3_jobs_20 : decode cX3_jobs 20 = .ok (.goto 4, 3) := by decide +kernel
theorem dX3_jobs_23 : decode cX3_jobs 23 = .ok (.iconst (-1), 1) := by decide +kernel
theorem dX3_jobs_24 : decode cX3_jobs 24 = .ok (.ireturn, 1) := by decide +kernel
set_option maxRecDepth 20000 in
theorem ggX3_told_X3_isNode : GoodIn wsX3_told wsX3_isNode := goodIn_r _ [5, 6, 7, 4, 8] (by decide +kernel) (by decide +kernel)
set_option maxRecDepth 20000 in
theorem gX3_told_X3_isNode : GoodIn wsX3_told (va_wsS RX3 48 yX3_isNode wsX3_isNode) := goodIn_app (goodIn_of _ (by decide +kernel)) ggX3_told_X3_isNode
set_option maxRecDepth 20000 in
theorem ggX3_told_X3_in : GoodIn wsX3_told wsX3_in := goodIn_r _ [8] (by decide +kernel) (by decide +kernel)
set_option maxRecDepth 20000 in
theorem gX3_told_X3_in : GoodIn wsX3_told (va_wsS RX3 36 yX3_in wsX3_in) := goodIn_app (goodIn_of _ (by decide +kernel)) ggX3_told_X3_in
set_option maxRecDepth 20000 in
theorem ggX3_told_X3_isEdge : GoodIn wsX3_told wsX3_isEdge := goodIn_r _ [12, 1, 13, 14, 4, 15, 20, 21, 22, 23, 24, 25, 26, 27, 28, 29, 30] (by decide +kernel) (by decide +kernel)
set_option maxRecDepth 20000 in
theorem gX3_told_X3_isEdge : GoodIn wsX3_told (wsV RX3 44 RX3 yX3_isEdge wsX3_isEdge) := goodIn_app (goodIn_of _ (by decide +kernel)) ggX3_told_X3_isEdge
set_option maxRecDepth 20000 in
theorem ggX3_told_X3_pair : GoodIn wsX3_told wsX3_pair := goodIn_r _ [15] (by decide +kernel) (by decide +kernel)
set_option maxRecDepth 20000 in
theorem gX3_told_X3_pair : GoodIn wsX3_told (va_wsS RX3 40 yX3_pair wsX3_pair) := goodIn_app (goodIn_of _ (by decide +kernel)) ggX3_told_X3_pair
set_option maxRecDepth 20000 in
theorem ggX3_told_X3_edgesOf : GoodIn wsX3_told wsX3_edgesOf := goodIn_r _ [19, 9, 10, 11, 4, 12, 1, 13, 14, 15, 20, 21, 22, 23, 24, 25, 26, 27, 28, 29, 30] (by decide +kernel) (by decide +kernel)
set_option maxRecDepth 20000 in
theorem gX3_told_X3_edgesOf : GoodIn wsX3_told (wsV RX3 77 RX3 yX3_edgesOf wsX3_edgesOf) := goodIn_app (goodIn_of _ (by decide +kernel)) ggX3_told_X3_edgesOf
theorem dX3_told_0 : decode cX3_told 0 = .ok (.iload_n 1, 1) := by decide +kernel
theorem dX3_told_1 : decode cX3_told 1 = .ok (.invokestatic 48, 3) := by decide +kernel
theorem dX3_told_4 : decode cX3_told 4 = .ok (.ifCond .ne 5, 3) := by decide +kernel
theorem dX3_told_7 : decode cX3_told 7 = .ok (.iconst (-1), 1) := by decide +kernel
theorem dX3_told_8 : decode cX3_told 8 = .ok (.ireturn, 1) := by decide +kernel
theorem dX3_told_9 : decode cX3_told 9 = .ok (.iload_n 2, 1) := by decide +kernel
theorem dX3_told_10 : decode cX3_told 10 = .ok (.bipush 10, 2) := by decide +kernel
theorem dX3_told_12 : decode cX3_told 12 = .ok (.bipush 17, 2) := by decide +kernel
theorem dX3_told_14 : decode cX3_told 14 = .ok (.invokestatic 36, 3) := by decide +kernel
theorem dX3_told_17 : decode cX3_told 17 = .ok (.ifCond .eq 37, 3) := by decide +kernel
theorem dX3_told_20 : decode cX3_told 20 = .ok (.aload_n 0, 1) := by decide +kernel
theorem dX3_told_21 : decode cX3_told 21 = .ok (.iload_n 1, 1) := by decide +kernel
theorem dX3_told_22 : decode cX3_told 22 = .ok (.iload_n 2, 1) := by decide +kernel
theorem dX3_told_23 : decode cX3_told 23 = .ok (.bipush 10, 2) := by decide +kernel
theorem dX3_told_25 : decode cX3_told 25 = .ok (.isub, 1) := by decide +kernel
theorem dX3_told_26 : decode cX3_told 26 = .ok (.invokevirtual 44, 3) := by decide +kernel
theorem dX3_told_29 : decode cX3_told 29 = .ok (.ifCond .eq 22, 3) := by decide +kernel
theorem dX3_told_32 : decode cX3_told 32 = .ok (.aload_n 0, 1) := by decide +kernel
theorem dX3_told_33 : decode cX3_told 33 = .ok (.getfield 7, 3) := by decide +kernel
theorem dX3_told_36 : decode cX3_told 36 = .ok (.bipush 24, 2) := by decide +kernel
theorem dX3_told_38 : decode cX3_told 38 = .ok (.iload_n 1, 1) := by decide +kernel
theorem dX3_told_39 : decode cX3_told 39 = .ok (.iload_n 2, 1) := by decide +kernel
theorem dX3_told_40 : decode cX3_told 40 = .ok (.bipush 10, 2) := by decide +kernel
theorem dX3_told_42 : decode cX3_told 42 = .ok (.isub, 1) := by decide +kernel
theorem dX3_told_43 : decode cX3_told 43 = .ok (.invokestatic 40, 3) := by decide +kernel
theorem dX3_told_46 : decode cX3_told 46 = .ok (.iadd, 1) := by decide +kernel
theorem dX3_told_47 : decode cX3_told 47 = .ok (.iaload, 1) := by decide +kernel
theorem dX3_told_48 : decode cX3_told 48 = .ok (.goto 5, 3) := by decide +kernel
theorem dX3_told_51 : decode cX3_told 51 = .ok (.bipush (-6), 2) := by decide +kernel
theorem dX3_told_53 : decode cX3_told 53 = .ok (.ireturn, 1) := by decide +kernel
theorem dX3_told_54 : decode cX3_told 54 = .ok (.iload_n 2, 1) := by decide +kernel
theorem dX3_told_55 : decode cX3_told 55 = .ok (.tableswitch 58 0 2 #[25, 34, 40], 25) := by decide +kernel
theorem dX3_told_80 : decode cX3_told 80 = .ok (.aload_n 0, 1) := by decide +kernel
theorem dX3_told_81 : decode cX3_told 81 = .ok (.getfield 7, 3) := by decide +kernel
theorem dX3_told_84 : decode cX3_told 84 = .ok (.iconst 0, 1) := by decide +kernel
theorem dX3_told_85 : decode cX3_told 85 = .ok (.iload_n 1, 1) := by decide +kernel
theorem dX3_told_86 : decode cX3_told 86 = .ok (.iadd, 1) := by decide +kernel
theorem dX3_told_87 : decode cX3_told 87 = .ok (.iaload, 1) := by decide +kernel
theorem dX3_told_88 : decode cX3_told 88 = .ok (.ireturn, 1) := by decide +kernel
theorem dX3_told_89 : decode cX3_told 89 = .ok (.aload_n 0, 1) := by decide +kernel
theorem dX3_told_90 : decode cX3_told 90 = .ok (.iload_n 1, 1) := by decide +kernel
theorem dX3_told_91 : decode cX3_told 91 = .ok (.invokevirtual 77, 3) := by decide +kernel
theorem dX3_told_94 : decode cX3_told 94 = .ok (.ireturn, 1) := by decide +kernel
theorem dX3_told_95 : decode cX3_told 95 = .ok (.aload_n 0, 1) := by decide +kernel
theorem dX3_told_96 : decode cX3_told 96 = .ok (.getfield 7, 3) := by decide +kernel
theorem dX3_told_99 : decode cX3_told 99 = .ok (.bipush 16, 2) := by decide +kernel
theorem dX3_told_101 : decode cX3_told 101 = .ok (.iload_n 1, 1) := by decide +kernel
theorem dX3_told_102 : decode cX3_told 102 = .ok (.iadd, 1) := by decide +kernel
theorem dX3_told_103 : decode cX3_told 103 = .ok (.iaload, 1) := by decide +kernel
theorem dX3_told_104 : decode cX3_told 104 = .ok (.aload_n 0, 1) := by decide +kernel
theorem dX3_told_105 : decode cX3_told 105 = .ok (.iload_n 1, 1) := by decide +kernel
theorem dX3_told_106 : decode cX3_told 106 = .ok (.invokevirtual 77, 3) := by decide +kernel
theorem dX3_told_109 : decode cX3_told 109 = .ok (.iconst 1, 1) := by decide +kernel
theorem dX3_told_110 : decode cX3_told 110 = .ok (.iadd, 1) := by decide +kernel
theorem dX3_told_111 : decode cX3_told 111 = .ok (.irem, 1) := by decide +kernel
theorem dX3_told_112 : decode cX3_told 112 = .ok (.ireturn, 1) := by decide +kernel
theorem dX3_told_113 : decode cX3_told 113 = .ok (.bipush (-2), 2) := by decide +kernel
theorem dX3_told_115 : decode cX3_told 115 = .ok (.ireturn, 1) := by decide +kernel
set_option maxRecDepth 20000 in
theorem ggX3_carry_X3_isNode : GoodIn wsX3_carry wsX3_isNode := goodIn_r _ [5, 6, 7, 4, 8] (by decide +kernel) (by decide +kernel)
set_option maxRecDepth 20000 in
theorem gX3_carry_X3_isNode : GoodIn wsX3_carry (va_wsS RX3 48 yX3_isNode wsX3_isNode) := goodIn_app (goodIn_of _ (by decide +kernel)) ggX3_carry_X3_isNode
set_option maxRecDepth 20000 in
theorem ggX3_carry_X3_isEdge : GoodIn wsX3_carry wsX3_isEdge := goodIn_r _ [12, 1, 13, 14, 4, 15, 16, 17, 18, 19, 20, 21, 22, 23, 24, 25, 26] (by decide +kernel) (by decide +kernel)
set_option maxRecDepth 20000 in
theorem gX3_carry_X3_isEdge : GoodIn wsX3_carry (wsV RX3 44 RX3 yX3_isEdge wsX3_isEdge) := goodIn_app (goodIn_of _ (by decide +kernel)) ggX3_carry_X3_isEdge
set_option maxRecDepth 20000 in
theorem ggX3_carry_X3_pair : GoodIn wsX3_carry wsX3_pair := goodIn_r _ [15] (by decide +kernel) (by decide +kernel)
set_option maxRecDepth 20000 in
theorem gX3_carry_X3_pair : GoodIn wsX3_carry (va_wsS RX3 40 yX3_pair wsX3_pair) := goodIn_app (goodIn_of _ (by decide +kernel)) ggX3_carry_X3_pair
theorem dX3_carry_0 : decode cX3_carry 0 = .ok (.iload_n 1, 1) := by decide +kernel
theorem dX3_carry_1 : decode cX3_carry 1 = .ok (.invokestatic 48, 3) := by decide +kernel
theorem dX3_carry_4 : decode cX3_carry 4 = .ok (.ifCond .eq 10, 3) := by decide +kernel
theorem dX3_carry_7 : decode cX3_carry 7 = .ok (.iload_n 2, 1) := by decide +kernel
theorem dX3_carry_8 : decode cX3_carry 8 = .ok (.invokestatic 48, 3) := by decide +kernel
theorem dX3_carry_11 : decode cX3_carry 11 = .ok (.ifCond .ne 5, 3) := by decide +kernel
theorem dX3_carry_14 : decode cX3_carry 14 = .ok (.iconst (-1), 1) := by decide +kernel
theorem dX3_carry_15 : decode cX3_carry 15 = .ok (.ireturn, 1) := by decide +kernel
theorem dX3_carry_16 : decode cX3_carry 16 = .ok (.iload_n 1, 1) := by decide +kernel
theorem dX3_carry_17 : decode cX3_carry 17 = .ok (.iload_n 2, 1) := by decide +kernel
theorem dX3_carry_18 : decode cX3_carry 18 = .ok (.if_icmp .ne 6, 3) := by decide +kernel
theorem dX3_carry_21 : decode cX3_carry 21 = .ok (.bipush (-2), 2) := by decide +kernel
theorem dX3_carry_23 : decode cX3_carry 23 = .ok (.ireturn, 1) := by decide +kernel
theorem dX3_carry_24 : decode cX3_carry 24 = .ok (.aload_n 0, 1) := by decide +kernel
theorem dX3_carry_25 : decode cX3_carry 25 = .ok (.iload_n 1, 1) := by decide +kernel
theorem dX3_carry_26 : decode cX3_carry 26 = .ok (.iload_n 2, 1) := by decide +kernel
theorem dX3_carry_27 : decode cX3_carry 27 = .ok (.invokevirtual 44, 3) := by decide +kernel
theorem dX3_carry_30 : decode cX3_carry 30 = .ok (.ifCond .eq 23, 3) := by decide +kernel
theorem dX3_carry_33 : decode cX3_carry 33 = .ok (.aload_n 0, 1) := by decide +kernel
theorem dX3_carry_34 : decode cX3_carry 34 = .ok (.getfield 7, 3) := by decide +kernel
theorem dX3_carry_37 : decode cX3_carry 37 = .ok (.bipush 88, 2) := by decide +kernel
theorem dX3_carry_39 : decode cX3_carry 39 = .ok (.iload_n 1, 1) := by decide +kernel
theorem dX3_carry_40 : decode cX3_carry 40 = .ok (.iload_n 2, 1) := by decide +kernel
theorem dX3_carry_41 : decode cX3_carry 41 = .ok (.invokestatic 40, 3) := by decide +kernel
theorem dX3_carry_44 : decode cX3_carry 44 = .ok (.iadd, 1) := by decide +kernel
theorem dX3_carry_45 : decode cX3_carry 45 = .ok (.iaload, 1) := by decide +kernel
theorem dX3_carry_46 : decode cX3_carry 46 = .ok (.sipush 10000, 3) := by decide +kernel
theorem dX3_carry_49 : decode cX3_carry 49 = .ok (.iadd, 1) := by decide +kernel
theorem dX3_carry_50 : decode cX3_carry 50 = .ok (.goto 5, 3) := by decide +kernel
theorem dX3_carry_53 : decode cX3_carry 53 = .ok (.bipush (-6), 2) := by decide +kernel
theorem dX3_carry_55 : decode cX3_carry 55 = .ok (.ireturn, 1) := by decide +kernel
set_option maxRecDepth 20000 in
theorem ggX3_measure_X3_edgesOf : GoodIn wsX3_measure wsX3_edgesOf := goodIn_r _ [5, 6, 7, 8, 4, 9, 10, 11, 12, 13, 14, 15, 16, 17, 18, 19, 20, 21, 22, 23, 24] (by decide +kernel) (by decide +kernel)
set_option maxRecDepth 20000 in
theorem gX3_measure_X3_edgesOf : GoodIn wsX3_measure (wsV RX3 77 RX3 yX3_edgesOf wsX3_edgesOf) := goodIn_app (goodIn_of _ (by decide +kernel)) ggX3_measure_X3_edgesOf
theorem dX3_measure_0 : decode cX3_measure 0 = .ok (.iconst 0, 1) := by decide +kernel
theorem dX3_measure_1 : decode cX3_measure 1 = .ok (.istore_n 1, 1) := by decide +kernel
theorem dX3_measure_2 : decode cX3_measure 2 = .ok (.iconst 0, 1) := by decide +kernel
theorem dX3_measure_3 : decode cX3_measure 3 = .ok (.istore_n 2, 1) := by decide +kernel
theorem dX3_measure_4 : decode cX3_measure 4 = .ok (.iload_n 2, 1) := by decide +kernel
theorem dX3_measure_5 : decode cX3_measure 5 = .ok (.bipush 8, 2) := by decide +kernel
theorem dX3_measure_7 : decode cX3_measure 7 = .ok (.if_icmp .ge 28, 3) := by decide +kernel
theorem dX3_measure_10 : decode cX3_measure 10 = .ok (.aload_n 0, 1) := by decide +kernel
theorem dX3_measure_11 : decode cX3_measure 11 = .ok (.iload_n 2, 1) := by decide +kernel
theorem dX3_measure_12 : decode cX3_measure 12 = .ok (.invokevirtual 77, 3) := by decide +kernel
theorem dX3_measure_15 : decode cX3_measure 15 = .ok (.iload_n 1, 1) := by decide +kernel
theorem dX3_measure_16 : decode cX3_measure 16 = .ok (.if_icmp .le 11, 3) := by decide +kernel
theorem dX3_measure_19 : decode cX3_measure 19 = .ok (.aload_n 0, 1) := by decide +kernel
theorem dX3_measure_20 : decode cX3_measure 20 = .ok (.iload_n 2, 1) := by decide +kernel
theorem dX3_measure_21 : decode cX3_measure 21 = .ok (.invokevirtual 77, 3) := by decide +kernel
theorem dX3_measure_24 : decode cX3_measure 24 = .ok (.goto 4, 3) := by decide +kernel
theorem dX3_measure_27 : decode cX3_measure 27 = .ok (.iload_n 1, 1) := by decide +kernel
theorem dX3_measure_28 : decode cX3_measure 28 = .ok (.istore_n 1, 1) := by decide +kernel
theorem dX3_measure_29 : decode cX3_measure 29 = .ok (.iinc 2 1, 3) := by decide +kernel
theorem dX3_measure_32 : decode cX3_measure 32 = .ok (.goto (-28), 3) := by decide +kernel
theorem dX3_measure_35 : decode cX3_measure 35 = .ok (.iconst 4, 1) := by decide +kernel
theorem dX3_measure_36 : decode cX3_measure 36 = .ok (.iconst 1, 1) := by decide +kernel
theorem dX3_measure_37 : decode cX3_measure 37 = .ok (.iload_n 1, 1) := by decide +kernel
theorem dX3_measure_38 : decode cX3_measure 38 = .ok (.iadd, 1) := by decide +kernel
theorem dX3_measure_39 : decode cX3_measure 39 = .ok (.imul, 1) := by decide +kernel
theorem dX3_measure_40 : decode cX3_measure 40 = .ok (.ireturn, 1) := by decide +kernel
theorem dX3_colours_0 : decode cX3_colours 0 = .ok (.iconst 0, 1) := by decide +kernel
theorem dX3_colours_1 : decode cX3_colours 1 = .ok (.istore_n 1, 1) := by decide +kernel
theorem dX3_colours_2 : decode cX3_colours 2 = .ok (.iconst 0, 1) := by decide +kernel
theorem dX3_colours_3 : decode cX3_colours 3 = .ok (.istore_n 2, 1) := by decide +kernel
theorem dX3_colours_4 : decode cX3_colours 4 = .ok (.iload_n 2, 1) := by decide +kernel
theorem dX3_colours_5 : decode cX3_colours 5 = .ok (.bipush 64, 2) := by decide +kernel
theorem dX3_colours_7 : decode cX3_colours 7 = .ok (.if_icmp .ge 36, 3) := by decide +kernel
theorem dX3_colours_10 : decode cX3_colours 10 = .ok (.aload_n 0, 1) := by decide +kernel
theorem dX3_colours_11 : decode cX3_colours 11 = .ok (.getfield 7, 3) := by decide +kernel
theorem dX3_colours_14 : decode cX3_colours 14 = .ok (.bipush 24, 2) := by decide +kernel
theorem dX3_colours_16 : decode cX3_colours 16 = .ok (.iload_n 2, 1) := by decide +kernel
theorem dX3_colours_17 : decode cX3_colours 17 = .ok (.iadd, 1) := by decide +kernel
theorem dX3_colours_18 : decode cX3_colours 18 = .ok (.iaload, 1) := by decide +kernel
theorem dX3_colours_19 : decode cX3_colours 19 = .ok (.iload_n 1, 1) := by decide +kernel
theorem dX3_colours_20 : decode cX3_colours 20 = .ok (.if_icmp .le 15, 3) := by decide +kernel
theorem dX3_colours_23 : decode cX3_colours 23 = .ok (.aload_n 0, 1) := by decide +kernel
theorem dX3_colours_24 : decode cX3_colours 24 = .ok (.getfield 7, 3) := by decide +kernel
theorem dX3_colours_27 : decode cX3_colours 27 = .ok (.bipush 24, 2) := by decide +kernel
theorem dX3_colours_29 : decode cX3_colours 29 = .ok (.iload_n 2, 1) := by decide +kernel
theorem dX3_colours_30 : decode cX3_colours 30 = .ok (.iadd, 1) := by decide +kernel
theorem dX3_colours_31 : decode cX3_colours 31 = .ok (.iaload, 1) := by decide +kernel
theorem dX3_colours_32 : decode cX3_colours 32 = .ok (.goto 4, 3) := by decide +kernel
theorem dX3_colours_35 : decode cX3_colours 35 = .ok (.iload_n 1, 1) := by decide +kernel
theorem dX3_colours_36 : decode cX3_colours 36 = .ok (.istore_n 1, 1) := by decide +kernel
theorem dX3_colours_37 : decode cX3_colours 37 = .ok (.iinc 2 1, 3) := by decide +kernel
theorem dX3_colours_40 : decode cX3_colours 40 = .ok (.goto (-36), 3) := by decide +kernel
theorem dX3_colours_43 : decode cX3_colours 43 = .ok (.iconst 1, 1) := by decide +kernel
theorem dX3_colours_44 : decode cX3_colours 44 = .ok (.iload_n 1, 1) := by decide +kernel
theorem dX3_colours_45 : decode cX3_colours 45 = .ok (.iadd, 1) := by decide +kernel
theorem dX3_colours_46 : decode cX3_colours 46 = .ok (.ireturn, 1) := by decide +kernel
theorem dX3_layNext_0 : decode cX3_layNext 0 = .ok (.iconst 0, 1) := by decide +kernel
theorem dX3_layNext_1 : decode cX3_layNext 1 = .ok (.istore_n 1, 1) := by decide +kernel
theorem dX3_layNext_2 : decode cX3_layNext 2 = .ok (.iload_n 1, 1) := by decide +kernel
theorem dX3_layNext_3 : decode cX3_layNext 3 = .ok (.bipush 8, 2) := by decide +kernel
theorem dX3_layNext_5 : decode cX3_layNext 5 = .ok (.if_icmp .ge 24, 3) := by decide +kernel
theorem dX3_layNext_8 : decode cX3_layNext 8 = .ok (.aload_n 0, 1) := by decide +kernel
theorem dX3_layNext_9 : decode cX3_layNext 9 = .ok (.getfield 23, 3) := by decide +kernel
theorem dX3_layNext_12 : decode cX3_layNext 12 = .ok (.iload_n 1, 1) := by decide +kernel
theorem dX3_layNext_13 : decode cX3_layNext 13 = .ok (.aload_n 0, 1) := by decide +kernel
theorem dX3_layNext_14 : decode cX3_layNext 14 = .ok (.getfield 7, 3) := by decide +kernel
theorem dX3_layNext_17 : decode cX3_layNext 17 = .ok (.bipush 8, 2) := by decide +kernel
theorem dX3_layNext_19 : decode cX3_layNext 19 = .ok (.iload_n 1, 1) := by decide +kernel
theorem dX3_layNext_20 : decode cX3_layNext 20 = .ok (.iadd, 1) := by decide +kernel
theorem dX3_layNext_21 : decode cX3_layNext 21 = .ok (.iaload, 1) := by decide +kernel
theorem dX3_layNext_22 : decode cX3_layNext 22 = .ok (.iastore, 1) := by decide +kernel
theorem dX3_layNext_23 : decode cX3_layNext 23 = .ok (.iinc 1 1, 3) := by decide +kernel
theorem dX3_layNext_26 : decode cX3_layNext 26 = .ok (.goto (-24), 3) := by decide +kernel
theorem dX3_layNext_29 : decode cX3_layNext 29 = .ok (.return_, 1) := by decide +kernel
theorem dX3_takeNext_0 : decode cX3_takeNext 0 = .ok (.iconst 0, 1) := by decide +kernel
theorem dX3_takeNext_1 : decode cX3_takeNext 1 = .ok (.istore_n 1, 1) := by decide +kernel
theorem dX3_takeNext_2 : decode cX3_takeNext 2 = .ok (.iload_n 1, 1) := by decide +kernel
theorem dX3_takeNext_3 : decode cX3_takeNext 3 = .ok (.bipush 8, 2) := by decide +kernel
theorem dX3_takeNext_5 : decode cX3_takeNext 5 = .ok (.if_icmp .ge 24, 3) := by decide +kernel
theorem dX3_takeNext_8 : decode cX3_takeNext 8 = .ok (.aload_n 0, 1) := by decide +kernel
theorem dX3_takeNext_9 : decode cX3_takeNext 9 = .ok (.getfield 7, 3) := by decide +kernel
theorem dX3_takeNext_12 : decode cX3_takeNext 12 = .ok (.bipush 8, 2) := by decide +kernel
theorem dX3_takeNext_14 : decode cX3_takeNext 14 = .ok (.iload_n 1, 1) := by decide +kernel
theorem dX3_takeNext_15 : decode cX3_takeNext 15 = .ok (.iadd, 1) := by decide +kernel
theorem dX3_takeNext_16 : decode cX3_takeNext 16 = .ok (.aload_n 0, 1) := by decide +kernel
theorem dX3_takeNext_17 : decode cX3_takeNext 17 = .ok (.getfield 23, 3) := by decide +kernel
theorem dX3_takeNext_20 : decode cX3_takeNext 20 = .ok (.iload_n 1, 1) := by decide +kernel
theorem dX3_takeNext_21 : decode cX3_takeNext 21 = .ok (.iaload, 1) := by decide +kernel
theorem dX3_takeNext_22 : decode cX3_takeNext 22 = .ok (.iastore, 1) := by decide +kernel
theorem dX3_takeNext_23 : decode cX3_takeNext 23 = .ok (.iinc 1 1, 3) := by decide +kernel
theorem dX3_takeNext_26 : decode cX3_takeNext 26 = .ok (.goto (-24), 3) := by decide +kernel
theorem dX3_takeNext_29 : decode cX3_takeNext 29 = .ok (.return_, 1) := by decide +kernel
set_option maxRecDepth 20000 in
theorem ggX3_flow_X3_measure : GoodIn wsX3_flow wsX3_measure := goodIn_r _ [7, 8, 9, 10, 6, 11, 12, 13, 14, 15, 1, 16, 17, 18, 27, 28, 29, 30, 31, 32, 33, 34, 35, 36, 37] (by decide +kernel) (by decide +kernel)
set_option maxRecDepth 20000 in
theorem gX3_flow_X3_measure : GoodIn wsX3_flow (wsV RX3 80 RX3 yX3_measure wsX3_measure) := goodIn_app (goodIn_of _ (by decide +kernel)) ggX3_flow_X3_measure
set_option maxRecDepth 20000 in
theorem ggX3_flow_X3_layNext : GoodIn wsX3_flow wsX3_layNext := goodIn_r _ [22, 2, 1, 27, 28, 29, 30, 31, 32, 33, 34, 35, 36, 37] (by decide +kernel) (by decide +kernel)
set_option maxRecDepth 20000 in
theorem gX3_flow_X3_layNext : GoodIn wsX3_flow (wsV RX3 83 RX3 yX3_layNext wsX3_layNext) := goodIn_app (goodIn_of _ (by decide +kernel)) ggX3_flow_X3_layNext
set_option maxRecDepth 20000 in
theorem ggX3_flow_X3_takeNext : GoodIn wsX3_flow wsX3_takeNext := goodIn_r _ [26, 1, 2, 27, 28, 29, 30, 31, 32, 33, 34, 35, 36, 37] (by decide +kernel) (by decide +kernel)
set_option maxRecDepth 20000 in
theorem gX3_flow_X3_takeNext : GoodIn wsX3_flow (wsV RX3 86 RX3 yX3_takeNext wsX3_takeNext) := goodIn_app (goodIn_of _ (by decide +kernel)) ggX3_flow_X3_takeNext
theorem dX3_flow_0 : decode cX3_flow 0 = .ok (.aload_n 0, 1) := by decide +kernel
theorem dX3_flow_1 : decode cX3_flow 1 = .ok (.invokevirtual 80, 3) := by decide +kernel
theorem dX3_flow_4 : decode cX3_flow 4 = .ok (.istore_n 1, 1) := by decide +kernel
theorem dX3_flow_5 : decode cX3_flow 5 = .ok (.iconst 0, 1) := by decide +kernel
theorem dX3_flow_6 : decode cX3_flow 6 = .ok (.istore_n 2, 1) := by decide +kernel
theorem dX3_flow_7 : decode cX3_flow 7 = .ok (.aload_n 0, 1) := by decide +kernel
theorem dX3_flow_8 : decode cX3_flow 8 = .ok (.invokevirtual 83, 3) := by decide +kernel
theorem dX3_flow_11 : decode cX3_flow 11 = .ok (.iconst 0, 1) := by decide +kernel
theorem dX3_flow_12 : decode cX3_flow 12 = .ok (.istore_n 3, 1) := by decide +kernel
theorem dX3_flow_13 : decode cX3_flow 13 = .ok (.iload_n 3, 1) := by decide +kernel
theorem dX3_flow_14 : decode cX3_flow 14 = .ok (.bipush 64, 2) := by decide +kernel
theorem dX3_flow_16 : decode cX3_flow 16 = .ok (.if_icmp .ge 148, 3) := by decide +kernel
theorem dX3_flow_19 : decode cX3_flow 19 = .ok (.aload_n 0, 1) := by decide +kernel
theorem dX3_flow_20 : decode cX3_flow 20 = .ok (.getfield 7, 3) := by decide +kernel
theorem dX3_flow_23 : decode cX3_flow 23 = .ok (.bipush 24, 2) := by decide +kernel
theorem dX3_flow_25 : decode cX3_flow 25 = .ok (.iload_n 3, 1) := by decide +kernel
theorem dX3_flow_26 : decode cX3_flow 26 = .ok (.iadd, 1) := by decide +kernel
theorem dX3_flow_27 : decode cX3_flow 27 = .ok (.iaload, 1) := by decide +kernel
theorem dX3_flow_28 : decode cX3_flow 28 = .ok (.ifCond .lt 130, 3) := by decide +kernel
theorem dX3_flow_31 : decode cX3_flow 31 = .ok (.iload_n 3, 1) := by decide +kernel
theorem dX3_flow_32 : decode cX3_flow 32 = .ok (.bipush 8, 2) := by decide +kernel
theorem dX3_flow_34 : decode cX3_flow 34 = .ok (.idiv, 1) := by decide +kernel
theorem dX3_flow_35 : decode cX3_flow 35 = .ok (.istore 4, 2) := by decide +kernel
theorem dX3_flow_37 : decode cX3_flow 37 = .ok (.iload_n 3, 1) := by decide +kernel
theorem dX3_flow_38 : decode cX3_flow 38 = .ok (.bipush 8, 2) := by decide +kernel
theorem dX3_flow_40 : decode cX3_flow 40 = .ok (.irem, 1) := by decide +kernel
theorem dX3_flow_41 : decode cX3_flow 41 = .ok (.istore 5, 2) := by decide +kernel
theorem dX3_flow_43 : decode cX3_flow 43 = .ok (.aload_n 0, 1) := by decide +kernel
theorem dX3_flow_44 : decode cX3_flow 44 = .ok (.getfield 7, 3) := by decide +kernel
theorem dX3_flow_47 : decode cX3_flow 47 = .ok (.bipush 88, 2) := by decide +kernel
theorem dX3_flow_49 : decode cX3_flow 49 = .ok (.iload_n 3, 1) := by decide +kernel
theorem dX3_flow_50 : decode cX3_flow 50 = .ok (.iadd, 1) := by decide +kernel
theorem dX3_flow_51 : decode cX3_flow 51 = .ok (.iaload, 1) := by decide +kernel
theorem dX3_flow_52 : decode cX3_flow 52 = .ok (.aload_n 0, 1) := by decide +kernel
theorem dX3_flow_53 : decode cX3_flow 53 = .ok (.getfield 7, 3) := by decide +kernel
theorem dX3_flow_56 : decode cX3_flow 56 = .ok (.bipush 8, 2) := by decide +kernel
theorem dX3_flow_58 : decode cX3_flow 58 = .ok (.iload 4, 2) := by decide +kernel
theorem dX3_flow_60 : decode cX3_flow 60 = .ok (.iadd, 1) := by decide +kernel
theorem dX3_flow_61 : decode cX3_flow 61 = .ok (.iaload, 1) := by decide +kernel
theorem dX3_flow_62 : decode cX3_flow 62 = .ok (.aload_n 0, 1) := by decide +kernel
theorem dX3_flow_63 : decode cX3_flow 63 = .ok (.getfield 7, 3) := by decide +kernel
theorem dX3_flow_66 : decode cX3_flow 66 = .ok (.iconst 0, 1) := by decide +kernel
theorem dX3_flow_67 : decode cX3_flow 67 = .ok (.iload 5, 2) := by decide +kernel
theorem dX3_flow_69 : decode cX3_flow 69 = .ok (.iadd, 1) := by decide +kernel
theorem dX3_flow_70 : decode cX3_flow 70 = .ok (.iaload, 1) := by decide +kernel
theorem dX3_flow_71 : decode cX3_flow 71 = .ok (.imul, 1) := by decide +kernel
theorem dX3_flow_72 : decode cX3_flow 72 = .ok (.iadd, 1) := by decide +kernel
theorem dX3_flow_73 : decode cX3_flow 73 = .ok (.aload_n 0, 1) := by decide +kernel
theorem dX3_flow_74 : decode cX3_flow 74 = .ok (.getfield 7, 3) := by decide +kernel
theorem dX3_flow_77 : decode cX3_flow 77 = .ok (.bipush 8, 2) := by decide +kernel
theorem dX3_flow_79 : decode cX3_flow 79 = .ok (.iload 5, 2) := by decide +kernel
theorem dX3_flow_81 : decode cX3_flow 81 = .ok (.iadd, 1) := by decide +kernel
theorem dX3_flow_82 : decode cX3_flow 82 = .ok (.iaload, 1) := by decide +kernel
theorem dX3_flow_83 : decode cX3_flow 83 = .ok (.aload_n 0, 1) := by decide +kernel
theorem dX3_flow_84 : decode cX3_flow 84 = .ok (.getfield 7, 3) := by decide +kernel
theorem dX3_flow_87 : decode cX3_flow 87 = .ok (.iconst 0, 1) := by decide +kernel
theorem dX3_flow_88 : decode cX3_flow 88 = .ok (.iload 4, 2) := by decide +kernel
theorem dX3_flow_90 : decode cX3_flow 90 = .ok (.iadd, 1) := by decide +kernel
theorem dX3_flow_91 : decode cX3_flow 91 = .ok (.iaload, 1) := by decide +kernel
theorem dX3_flow_92 : decode cX3_flow 92 = .ok (.imul, 1) := by decide +kernel
theorem dX3_flow_93 : decode cX3_flow 93 = .ok (.isub, 1) := by decide +kernel
theorem dX3_flow_94 : decode cX3_flow 94 = .ok (.istore 6, 2) := by decide +kernel
theorem dX3_flow_96 : decode cX3_flow 96 = .ok (.iload 6, 2) := by decide +kernel
theorem dX3_flow_98 : decode cX3_flow 98 = .ok (.iload_n 1, 1) := by decide +kernel
theorem dX3_flow_99 : decode cX3_flow 99 = .ok (.idiv, 1) := by decide +kernel
theorem dX3_flow_100 : decode cX3_flow 100 = .ok (.istore 7, 2) := by decide +kernel
theorem dX3_flow_102 : decode cX3_flow 102 = .ok (.aload_n 0, 1) := by decide +kernel
theorem dX3_flow_103 : decode cX3_flow 103 = .ok (.getfield 7, 3) := by decide +kernel
theorem dX3_flow_106 : decode cX3_flow 106 = .ok (.bipush 88, 2) := by decide +kernel
theorem dX3_flow_108 : decode cX3_flow 108 = .ok (.iload_n 3, 1) := by decide +kernel
theorem dX3_flow_109 : decode cX3_flow 109 = .ok (.iadd, 1) := by decide +kernel
theorem dX3_flow_110 : decode cX3_flow 110 = .ok (.iload 6, 2) := by decide +kernel
theorem dX3_flow_112 : decode cX3_flow 112 = .ok (.iload_n 1, 1) := by decide +kernel
theorem dX3_flow_113 : decode cX3_flow 113 = .ok (.iload 7, 2) := by decide +kernel
theorem dX3_flow_115 : decode cX3_flow 115 = .ok (.imul, 1) := by decide +kernel
theorem dX3_flow_116 : decode cX3_flow 116 = .ok (.isub, 1) := by decide +kernel
theorem dX3_flow_117 : decode cX3_flow 117 = .ok (.iastore, 1) := by decide +kernel
theorem dX3_flow_118 : decode cX3_flow 118 = .ok (.aload_n 0, 1) := by decide +kernel
theorem dX3_flow_119 : decode cX3_flow 119 = .ok (.getfield 23, 3) := by decide +kernel
theorem dX3_flow_122 : decode cX3_flow 122 = .ok (.iload 4, 2) := by decide +kernel
theorem dX3_flow_124 : decode cX3_flow 124 = .ok (.dup2, 1) := by decide +kernel
theorem dX3_flow_125 : decode cX3_flow 125 = .ok (.iaload, 1) := by decide +kernel
theorem dX3_flow_126 : decode cX3_flow 126 = .ok (.iload 7, 2) := by decide +kernel
theorem dX3_flow_128 : decode cX3_flow 128 = .ok (.isub, 1) := by decide +kernel
theorem dX3_flow_129 : decode cX3_flow 129 = .ok (.iastore, 1) := by decide +kernel
theorem dX3_flow_130 : decode cX3_flow 130 = .ok (.aload_n 0, 1) := by decide +kernel
theorem dX3_flow_131 : decode cX3_flow 131 = .ok (.getfield 23, 3) := by decide +kernel
theorem dX3_flow_134 : decode cX3_flow 134 = .ok (.iload 5, 2) := by decide +kernel
theorem dX3_flow_136 : decode cX3_flow 136 = .ok (.dup2, 1) := by decide +kernel
theorem dX3_flow_137 : decode cX3_flow 137 = .ok (.iaload, 1) := by decide +kernel
theorem dX3_flow_138 : decode cX3_flow 138 = .ok (.iload 7, 2) := by decide +kernel
theorem dX3_flow_140 : decode cX3_flow 140 = .ok (.iadd, 1) := by decide +kernel
theorem dX3_flow_141 : decode cX3_flow 141 = .ok (.iastore, 1) := by decide +kernel
theorem dX3_flow_142 : decode cX3_flow 142 = .ok (.iload_n 2, 1) := by decide +kernel
theorem dX3_flow_143 : decode cX3_flow 143 = .ok (.iload 7, 2) := by decide +kernel
theorem dX3_flow_145 : decode cX3_flow 145 = .ok (.ifCond .ge 9, 3) := by decide +kernel
theorem dX3_flow_148 : decode cX3_flow 148 = .ok (.iload 7, 2) := by decide +kernel
theorem dX3_flow_150 : decode cX3_flow 150 = .ok (.ineg, 1) := by decide +kernel
theorem dX3_flow_151 : decode cX3_flow 151 = .ok (.goto 5, 3) := by decide +kernel
theorem dX3_flow_154 : decode cX3_flow 154 = .ok (.iload 7, 2) := by decide +kernel
theorem dX3_flow_156 : decode cX3_flow 156 = .ok (.iadd, 1) := by decide +kernel
theorem dX3_flow_157 : decode cX3_flow 157 = .ok (.istore_n 2, 1) := by decide +kernel
theorem dX3_flow_158 : decode cX3_flow 158 = .ok (.iinc 3 1, 3) := by decide +kernel
theorem dX3_flow_161 : decode cX3_flow 161 = .ok (.goto (-148), 3) := by decide +kernel
theorem dX3_flow_164 : decode cX3_flow 164 = .ok (.aload_n 0, 1) := by decide +kernel
theorem dX3_flow_165 : decode cX3_flow 165 = .ok (.invokevirtual 86, 3) := by decide +kernel
theorem dX3_flow_168 : decode cX3_flow 168 = .ok (.iload_n 2, 1) := by decide +kernel
theorem dX3_flow_169 : decode cX3_flow 169 = .ok (.ireturn, 1) := by decide +kernel
theorem dX3_down_0 : decode cX3_down 0 = .ok (.iload_n 0, 1) := by decide +kernel
theorem dX3_down_1 : decode cX3_down 1 = .ok (.iload_n 1, 1) := by decide +kernel
theorem dX3_down_2 : decode cX3_down 2 = .ok (.idiv, 1) := by decide +kernel
theorem dX3_down_3 : decode cX3_down 3 = .ok (.istore_n 2, 1) := by decide +kernel
theorem dX3_down_4 : decode cX3_down 4 = .ok (.iload_n 0, 1) := by decide +kernel
theorem dX3_down_5 : decode cX3_down 5 = .ok (.ifCond .ge 16, 3) := by decide +kernel
theorem dX3_down_8 : decode cX3_down 8 = .ok (.iload_n 2, 1) := by decide +kernel
theorem dX3_down_9 : decode cX3_down 9 = .ok (.iload_n 1, 1) := by decide +kernel
theorem dX3_down_10 : decode cX3_down 10 = .ok (.imul, 1) := by decide +kernel
theorem dX3_down_11 : decode cX3_down 11 = .ok (.iload_n 0, 1) := by decide +kernel
theorem dX3_down_12 : decode cX3_down 12 = .ok (.if_icmp .eq 9, 3) := by decide +kernel
theorem dX3_down_15 : decode cX3_down 15 = .ok (.iload_n 2, 1) := by decide +kernel
theorem dX3_down_16 : decode cX3_down 16 = .ok (.iconst 1, 1) := by decide +kernel
theorem dX3_down_17 : decode cX3_down 17 = .ok (.isub, 1) := by decide +kernel
theorem dX3_down_18 : decode cX3_down 18 = .ok (.goto 4, 3) := by decide +kernel
theorem dX3_down_21 : decode cX3_down 21 = .ok (.iload_n 2, 1) := by decide +kernel
theorem dX3_down_22 : decode cX3_down 22 = .ok (.ireturn, 1) := by decide +kernel
set_option maxRecDepth 20000 in
theorem ggX3_even_X3_down : GoodIn wsX3_even wsX3_down := goodIn_r _ [5] (by decide +kernel) (by decide +kernel)
set_option maxRecDepth 20000 in
theorem gX3_even_X3_down : GoodIn wsX3_even (va_wsS RX3 89 yX3_down wsX3_down) := goodIn_app (goodIn_of _ (by decide +kernel)) ggX3_even_X3_down
theorem dX3_even_0 : decode cX3_even 0 = .ok (.aload_n 0, 1) := by decide +kernel
theorem dX3_even_1 : decode cX3_even 1 = .ok (.getfield 7, 3) := by decide +kernel
theorem dX3_even_4 : decode cX3_even 4 = .ok (.bipush 8, 2) := by decide +kernel
theorem dX3_even_6 : decode cX3_even 6 = .ok (.iload_n 1, 1) := by decide +kernel
theorem dX3_even_7 : decode cX3_even 7 = .ok (.iadd, 1) := by decide +kernel
theorem dX3_even_8 : decode cX3_even 8 = .ok (.iaload, 1) := by decide +kernel
theorem dX3_even_9 : decode cX3_even 9 = .ok (.istore_n 3, 1) := by decide +kernel
theorem dX3_even_10 : decode cX3_even 10 = .ok (.aload_n 0, 1) := by decide +kernel
theorem dX3_even_11 : decode cX3_even 11 = .ok (.getfield 7, 3) := by decide +kernel
theorem dX3_even_14 : decode cX3_even 14 = .ok (.bipush 8, 2) := by decide +kernel
theorem dX3_even_16 : decode cX3_even 16 = .ok (.iload_n 2, 1) := by decide +kernel
theorem dX3_even_17 : decode cX3_even 17 = .ok (.iadd, 1) := by decide +kernel
theorem dX3_even_18 : decode cX3_even 18 = .ok (.iaload, 1) := by decide +kernel
theorem dX3_even_19 : decode cX3_even 19 = .ok (.istore 4, 2) := by decide +kernel
theorem dX3_even_21 : decode cX3_even 21 = .ok (.iload_n 3, 1) := by decide +kernel
theorem dX3_even_22 : decode cX3_even 22 = .ok (.iload 4, 2) := by decide +kernel
theorem dX3_even_24 : decode cX3_even 24 = .ok (.iadd, 1) := by decide +kernel
theorem dX3_even_25 : decode cX3_even 25 = .ok (.istore 5, 2) := by decide +kernel
theorem dX3_even_27 : decode cX3_even 27 = .ok (.aload_n 0, 1) := by decide +kernel
theorem dX3_even_28 : decode cX3_even 28 = .ok (.getfield 7, 3) := by decide +kernel
theorem dX3_even_31 : decode cX3_even 31 = .ok (.iconst 0, 1) := by decide +kernel
theorem dX3_even_32 : decode cX3_even 32 = .ok (.iload_n 1, 1) := by decide +kernel
theorem dX3_even_33 : decode cX3_even 33 = .ok (.iadd, 1) := by decide +kernel
theorem dX3_even_34 : decode cX3_even 34 = .ok (.iaload, 1) := by decide +kernel
theorem dX3_even_35 : decode cX3_even 35 = .ok (.aload_n 0, 1) := by decide +kernel
theorem dX3_even_36 : decode cX3_even 36 = .ok (.getfield 7, 3) := by decide +kernel
theorem dX3_even_39 : decode cX3_even 39 = .ok (.iconst 0, 1) := by decide +kernel
theorem dX3_even_40 : decode cX3_even 40 = .ok (.iload_n 2, 1) := by decide +kernel
theorem dX3_even_41 : decode cX3_even 41 = .ok (.iadd, 1) := by decide +kernel
theorem dX3_even_42 : decode cX3_even 42 = .ok (.iaload, 1) := by decide +kernel
theorem dX3_even_43 : decode cX3_even 43 = .ok (.iadd, 1) := by decide +kernel
theorem dX3_even_44 : decode cX3_even 44 = .ok (.istore 6, 2) := by decide +kernel
theorem dX3_even_46 : decode cX3_even 46 = .ok (.aload_n 0, 1) := by decide +kernel
theorem dX3_even_47 : decode cX3_even 47 = .ok (.getfield 7, 3) := by decide +kernel
theorem dX3_even_50 : decode cX3_even 50 = .ok (.iconst 0, 1) := by decide +kernel
theorem dX3_even_51 : decode cX3_even 51 = .ok (.iload_n 1, 1) := by decide +kernel
theorem dX3_even_52 : decode cX3_even 52 = .ok (.iadd, 1) := by decide +kernel
theorem dX3_even_53 : decode cX3_even 53 = .ok (.iaload, 1) := by decide +kernel
theorem dX3_even_54 : decode cX3_even 54 = .ok (.iload 5, 2) := by decide +kernel
theorem dX3_even_56 : decode cX3_even 56 = .ok (.imul, 1) := by decide +kernel
theorem dX3_even_57 : decode cX3_even 57 = .ok (.iload 6, 2) := by decide +kernel
theorem dX3_even_59 : decode cX3_even 59 = .ok (.invokestatic 89, 3) := by decide +kernel
theorem dX3_even_62 : decode cX3_even 62 = .ok (.istore 7, 2) := by decide +kernel
theorem dX3_even_64 : decode cX3_even 64 = .ok (.aload_n 0, 1) := by decide +kernel
theorem dX3_even_65 : decode cX3_even 65 = .ok (.getfield 7, 3) := by decide +kernel
theorem dX3_even_68 : decode cX3_even 68 = .ok (.iconst 0, 1) := by decide +kernel
theorem dX3_even_69 : decode cX3_even 69 = .ok (.iload_n 2, 1) := by decide +kernel
theorem dX3_even_70 : decode cX3_even 70 = .ok (.iadd, 1) := by decide +kernel
theorem dX3_even_71 : decode cX3_even 71 = .ok (.iaload, 1) := by decide +kernel
theorem dX3_even_72 : decode cX3_even 72 = .ok (.iload 5, 2) := by decide +kernel
theorem dX3_even_74 : decode cX3_even 74 = .ok (.imul, 1) := by decide +kernel
theorem dX3_even_75 : decode cX3_even 75 = .ok (.iload 6, 2) := by decide +kernel
theorem dX3_even_77 : decode cX3_even 77 = .ok (.invokestatic 89, 3) := by decide +kernel
theorem dX3_even_80 : decode cX3_even 80 = .ok (.istore 8, 2) := by decide +kernel
theorem dX3_even_82 : decode cX3_even 82 = .ok (.iload 5, 2) := by decide +kernel
theorem dX3_even_84 : decode cX3_even 84 = .ok (.iload 7, 2) := by decide +kernel
theorem dX3_even_86 : decode cX3_even 86 = .ok (.isub, 1) := by decide +kernel
theorem dX3_even_87 : decode cX3_even 87 = .ok (.iload 8, 2) := by decide +kernel
theorem dX3_even_89 : decode cX3_even 89 = .ok (.isub, 1) := by decide +kernel
theorem dX3_even_90 : decode cX3_even 90 = .ok (.istore 9, 2) := by decide +kernel
theorem dX3_even_92 : decode cX3_even 92 = .ok (.iload 7, 2) := by decide +kernel
theorem dX3_even_94 : decode cX3_even 94 = .ok (.iload 9, 2) := by decide +kernel
theorem dX3_even_96 : decode cX3_even 96 = .ok (.ifCond .le 14, 3) := by decide +kernel
theorem dX3_even_99 : decode cX3_even 99 = .ok (.iload_n 3, 1) := by decide +kernel
theorem dX3_even_100 : decode cX3_even 100 = .ok (.iload 4, 2) := by decide +kernel
theorem dX3_even_102 : decode cX3_even 102 = .ok (.if_icmp .lt 8, 3) := by decide +kernel
theorem dX3_even_105 : decode cX3_even 105 = .ok (.iload 9, 2) := by decide +kernel
theorem dX3_even_107 : decode cX3_even 107 = .ok (.goto 4, 3) := by decide +kernel
theorem dX3_even_110 : decode cX3_even 110 = .ok (.iconst 0, 1) := by decide +kernel
theorem dX3_even_111 : decode cX3_even 111 = .ok (.iadd, 1) := by decide +kernel
theorem dX3_even_112 : decode cX3_even 112 = .ok (.istore 7, 2) := by decide +kernel
theorem dX3_even_114 : decode cX3_even 114 = .ok (.aload_n 0, 1) := by decide +kernel
theorem dX3_even_115 : decode cX3_even 115 = .ok (.getfield 7, 3) := by decide +kernel
theorem dX3_even_118 : decode cX3_even 118 = .ok (.bipush 8, 2) := by decide +kernel
theorem dX3_even_120 : decode cX3_even 120 = .ok (.iload_n 1, 1) := by decide +kernel
theorem dX3_even_121 : decode cX3_even 121 = .ok (.iadd, 1) := by decide +kernel
theorem dX3_even_122 : decode cX3_even 122 = .ok (.iload 7, 2) := by decide +kernel
theorem dX3_even_124 : decode cX3_even 124 = .ok (.iastore, 1) := by decide +kernel
theorem dX3_even_125 : decode cX3_even 125 = .ok (.aload_n 0, 1) := by decide +kernel
theorem dX3_even_126 : decode cX3_even 126 = .ok (.getfield 7, 3) := by decide +kernel
theorem dX3_even_129 : decode cX3_even 129 = .ok (.bipush 8, 2) := by decide +kernel
theorem dX3_even_131 : decode cX3_even 131 = .ok (.iload_n 2, 1) := by decide +kernel
theorem dX3_even_132 : decode cX3_even 132 = .ok (.iadd, 1) := by decide +kernel
theorem dX3_even_133 : decode cX3_even 133 = .ok (.iload 5, 2) := by decide +kernel
theorem dX3_even_135 : decode cX3_even 135 = .ok (.iload 7, 2) := by decide +kernel
theorem dX3_even_137 : decode cX3_even 137 = .ok (.isub, 1) := by decide +kernel
theorem dX3_even_138 : decode cX3_even 138 = .ok (.iastore, 1) := by decide +kernel
theorem dX3_even_139 : decode cX3_even 139 = .ok (.iload 7, 2) := by decide +kernel
theorem dX3_even_141 : decode cX3_even 141 = .ok (.iload_n 3, 1) := by decide +kernel
theorem dX3_even_142 : decode cX3_even 142 = .ok (.if_icmp .ge 10, 3) := by decide +kernel
theorem dX3_even_145 : decode cX3_even 145 = .ok (.iload_n 3, 1) := by decide +kernel
theorem dX3_even_146 : decode cX3_even 146 = .ok (.iload 7, 2) := by decide +kernel
theorem dX3_even_148 : decode cX3_even 148 = .ok (.isub, 1) := by decide +kernel
theorem dX3_even_149 : decode cX3_even 149 = .ok (.goto 7, 3) := by decide +kernel
theorem dX3_even_152 : decode cX3_even 152 = .ok (.iload 7, 2) := by decide +kernel
theorem dX3_even_154 : decode cX3_even 154 = .ok (.iload_n 3, 1) := by decide +kernel
theorem dX3_even_155 : decode cX3_even 155 = .ok (.isub, 1) := by decide +kernel
theorem dX3_even_156 : decode cX3_even 156 = .ok (.ireturn, 1) := by decide +kernel
set_option maxRecDepth 20000 in
theorem ggX3_exchange_X3_colours : GoodIn wsX3_exchange wsX3_colours := goodIn_r _ [6, 1, 14, 15, 16, 17, 18, 19, 20, 21, 22, 23, 24] (by decide +kernel) (by decide +kernel)
set_option maxRecDepth 20000 in
theorem gX3_exchange_X3_colours : GoodIn wsX3_exchange (wsV RX3 92 RX3 yX3_colours wsX3_colours) := goodIn_app (goodIn_of _ (by decide +kernel)) ggX3_exchange_X3_colours
set_option maxRecDepth 20000 in
theorem ggX3_exchange_X3_even : GoodIn wsX3_exchange wsX3_even := goodIn_r _ [10, 1, 11, 12, 5, 13, 14, 15, 16, 17, 18, 19, 20, 21, 22, 23, 24] (by decide +kernel) (by decide +kernel)
set_option maxRecDepth 20000 in
theorem gX3_exchange_X3_even : GoodIn wsX3_exchange (wsV RX3 95 RX3 yX3_even wsX3_even) := goodIn_app (goodIn_of _ (by decide +kernel)) ggX3_exchange_X3_even
theorem dX3_exchange_0 : decode cX3_exchange 0 = .ok (.aload_n 0, 1) := by decide +kernel
theorem dX3_exchange_1 : decode cX3_exchange 1 = .ok (.getfield 7, 3) := by decide +kernel
theorem dX3_exchange_4 : decode cX3_exchange 4 = .ok (.sipush 152, 3) := by decide +kernel
theorem dX3_exchange_7 : decode cX3_exchange 7 = .ok (.iaload, 1) := by decide +kernel
theorem dX3_exchange_8 : decode cX3_exchange 8 = .ok (.aload_n 0, 1) := by decide +kernel
theorem dX3_exchange_9 : decode cX3_exchange 9 = .ok (.invokevirtual 92, 3) := by decide +kernel
theorem dX3_exchange_12 : decode cX3_exchange 12 = .ok (.irem, 1) := by decide +kernel
theorem dX3_exchange_13 : decode cX3_exchange 13 = .ok (.istore_n 1, 1) := by decide +kernel
theorem dX3_exchange_14 : decode cX3_exchange 14 = .ok (.iconst 0, 1) := by decide +kernel
theorem dX3_exchange_15 : decode cX3_exchange 15 = .ok (.istore_n 2, 1) := by decide +kernel
theorem dX3_exchange_16 : decode cX3_exchange 16 = .ok (.iconst 0, 1) := by decide +kernel
theorem dX3_exchange_17 : decode cX3_exchange 17 = .ok (.istore_n 3, 1) := by decide +kernel
theorem dX3_exchange_18 : decode cX3_exchange 18 = .ok (.iload_n 3, 1) := by decide +kernel
theorem dX3_exchange_19 : decode cX3_exchange 19 = .ok (.bipush 64, 2) := by decide +kernel
theorem dX3_exchange_21 : decode cX3_exchange 21 = .ok (.if_icmp .ge 41, 3) := by decide +kernel
theorem dX3_exchange_24 : decode cX3_exchange 24 = .ok (.iload_n 2, 1) := by decide +kernel
theorem dX3_exchange_25 : decode cX3_exchange 25 = .ok (.aload_n 0, 1) := by decide +kernel
theorem dX3_exchange_26 : decode cX3_exchange 26 = .ok (.getfield 7, 3) := by decide +kernel
theorem dX3_exchange_29 : decode cX3_exchange 29 = .ok (.bipush 24, 2) := by decide +kernel
theorem dX3_exchange_31 : decode cX3_exchange 31 = .ok (.iload_n 3, 1) := by decide +kernel
theorem dX3_exchange_32 : decode cX3_exchange 32 = .ok (.iadd, 1) := by decide +kernel
theorem dX3_exchange_33 : decode cX3_exchange 33 = .ok (.iaload, 1) := by decide +kernel
theorem dX3_exchange_34 : decode cX3_exchange 34 = .ok (.iload_n 1, 1) := by decide +kernel
theorem dX3_exchange_35 : decode cX3_exchange 35 = .ok (.if_icmp .ne 18, 3) := by decide +kernel
theorem dX3_exchange_38 : decode cX3_exchange 38 = .ok (.aload_n 0, 1) := by decide +kernel
theorem dX3_exchange_39 : decode cX3_exchange 39 = .ok (.iload_n 3, 1) := by decide +kernel
theorem dX3_exchange_40 : decode cX3_exchange 40 = .ok (.bipush 8, 2) := by decide +kernel
theorem dX3_exchange_42 : decode cX3_exchange 42 = .ok (.idiv, 1) := by decide +kernel
theorem dX3_exchange_43 : decode cX3_exchange 43 = .ok (.iload_n 3, 1) := by decide +kernel
theorem dX3_exchange_44 : decode cX3_exchange 44 = .ok (.bipush 8, 2) := by decide +kernel
theorem dX3_exchange_46 : decode cX3_exchange 46 = .ok (.irem, 1) := by decide +kernel
theorem dX3_exchange_47 : decode cX3_exchange 47 = .ok (.invokevirtual 95, 3) := by decide +kernel
theorem dX3_exchange_50 : decode cX3_exchange 50 = .ok (.goto 4, 3) := by decide +kernel
theorem dX3_exchange_53 : decode cX3_exchange 53 = .ok (.iconst 0, 1) := by decide +kernel
theorem dX3_exchange_54 : decode cX3_exchange 54 = .ok (.iadd, 1) := by decide +kernel
theorem dX3_exchange_55 : decode cX3_exchange 55 = .ok (.istore_n 2, 1) := by decide +kernel
theorem dX3_exchange_56 : decode cX3_exchange 56 = .ok (.iinc 3 1, 3) := by decide +kernel
theorem dX3_exchange_59 : decode cX3_exchange 59 = .ok (.goto (-41), 3) := by decide +kernel
theorem dX3_exchange_62 : decode cX3_exchange 62 = .ok (.iload_n 2, 1) := by decide +kernel
theorem dX3_exchange_63 : decode cX3_exchange 63 = .ok (.ireturn, 1) := by decide +kernel
set_option maxRecDepth 20000 in
theorem ggX3_deal_X3_edgesOf : GoodIn wsX3_deal wsX3_edgesOf := goodIn_r _ [7, 8, 9, 10, 6, 11, 1, 12, 13, 14, 15, 16, 17, 18, 19, 20, 21, 22, 23, 24, 25] (by decide +kernel) (by decide +kernel)
set_option maxRecDepth 20000 in
theorem gX3_deal_X3_edgesOf : GoodIn wsX3_deal (wsV RX3 77 RX3 yX3_edgesOf wsX3_edgesOf) := goodIn_app (goodIn_of _ (by decide +kernel)) ggX3_deal_X3_edgesOf
set_option maxRecDepth 20000 in
theorem ggX3_deal_X3_isEdge : GoodIn wsX3_deal wsX3_isEdge := goodIn_r _ [11, 1, 12, 13, 6, 14, 15, 16, 17, 18, 19, 20, 21, 22, 23, 24, 25] (by decide +kernel) (by decide +kernel)
set_option maxRecDepth 20000 in
theorem gX3_deal_X3_isEdge : GoodIn wsX3_deal (wsV RX3 44 RX3 yX3_isEdge wsX3_isEdge) := goodIn_app (goodIn_of _ (by decide +kernel)) ggX3_deal_X3_isEdge
theorem dX3_deal_0 : decode cX3_deal 0 = .ok (.aload_n 0, 1) := by decide +kernel
theorem dX3_deal_1 : decode cX3_deal 1 = .ok (.iload_n 1, 1) := by decide +kernel
theorem dX3_deal_2 : decode cX3_deal 2 = .ok (.invokevirtual 77, 3) := by decide +kernel
theorem dX3_deal_5 : decode cX3_deal 5 = .ok (.iconst 1, 1) := by decide +kernel
theorem dX3_deal_6 : decode cX3_deal 6 = .ok (.iadd, 1) := by decide +kernel
theorem dX3_deal_7 : decode cX3_deal 7 = .ok (.istore_n 2, 1) := by decide +kernel
theorem dX3_deal_8 : decode cX3_deal 8 = .ok (.aload_n 0, 1) := by decide +kernel
theorem dX3_deal_9 : decode cX3_deal 9 = .ok (.getfield 7, 3) := by decide +kernel
theorem dX3_deal_12 : decode cX3_deal 12 = .ok (.bipush 8, 2) := by decide +kernel
theorem dX3_deal_14 : decode cX3_deal 14 = .ok (.iload_n 1, 1) := by decide +kernel
theorem dX3_deal_15 : decode cX3_deal 15 = .ok (.iadd, 1) := by decide +kernel
theorem dX3_deal_16 : decode cX3_deal 16 = .ok (.iaload, 1) := by decide +kernel
theorem dX3_deal_17 : decode cX3_deal 17 = .ok (.iload_n 2, 1) := by decide +kernel
theorem dX3_deal_18 : decode cX3_deal 18 = .ok (.idiv, 1) := by decide +kernel
theorem dX3_deal_19 : decode cX3_deal 19 = .ok (.istore_n 3, 1) := by decide +kernel
theorem dX3_deal_20 : decode cX3_deal 20 = .ok (.aload_n 0, 1) := by decide +kernel
theorem dX3_deal_21 : decode cX3_deal 21 = .ok (.getfield 7, 3) := by decide +kernel
theorem dX3_deal_24 : decode cX3_deal 24 = .ok (.bipush 8, 2) := by decide +kernel
theorem dX3_deal_26 : decode cX3_deal 26 = .ok (.iload_n 1, 1) := by decide +kernel
theorem dX3_deal_27 : decode cX3_deal 27 = .ok (.iadd, 1) := by decide +kernel
theorem dX3_deal_28 : decode cX3_deal 28 = .ok (.iaload, 1) := by decide +kernel
theorem dX3_deal_29 : decode cX3_deal 29 = .ok (.iload_n 2, 1) := by decide +kernel
theorem dX3_deal_30 : decode cX3_deal 30 = .ok (.irem, 1) := by decide +kernel
theorem dX3_deal_31 : decode cX3_deal 31 = .ok (.istore 4, 2) := by decide +kernel
theorem dX3_deal_33 : decode cX3_deal 33 = .ok (.aload_n 0, 1) := by decide +kernel
theorem dX3_deal_34 : decode cX3_deal 34 = .ok (.getfield 7, 3) := by decide +kernel
theorem dX3_deal_37 : decode cX3_deal 37 = .ok (.bipush 16, 2) := by decide +kernel
theorem dX3_deal_39 : decode cX3_deal 39 = .ok (.iload_n 1, 1) := by decide +kernel
theorem dX3_deal_40 : decode cX3_deal 40 = .ok (.iadd, 1) := by decide +kernel
theorem dX3_deal_41 : decode cX3_deal 41 = .ok (.iaload, 1) := by decide +kernel
theorem dX3_deal_42 : decode cX3_deal 42 = .ok (.iload_n 2, 1) := by decide +kernel
theorem dX3_deal_43 : decode cX3_deal 43 = .ok (.irem, 1) := by decide +kernel
theorem dX3_deal_44 : decode cX3_deal 44 = .ok (.istore 5, 2) := by decide +kernel
theorem dX3_deal_46 : decode cX3_deal 46 = .ok (.iconst 0, 1) := by decide +kernel
theorem dX3_deal_47 : decode cX3_deal 47 = .ok (.istore 6, 2) := by decide +kernel
theorem dX3_deal_49 : decode cX3_deal 49 = .ok (.iconst 0, 1) := by decide +kernel
theorem dX3_deal_50 : decode cX3_deal 50 = .ok (.istore 7, 2) := by decide +kernel
theorem dX3_deal_52 : decode cX3_deal 52 = .ok (.iconst 0, 1) := by decide +kernel
theorem dX3_deal_53 : decode cX3_deal 53 = .ok (.istore 8, 2) := by decide +kernel
theorem dX3_deal_55 : decode cX3_deal 55 = .ok (.iload 8, 2) := by decide +kernel
theorem dX3_deal_57 : decode cX3_deal 57 = .ok (.bipush 8, 2) := by decide +kernel
theorem dX3_deal_59 : decode cX3_deal 59 = .ok (.if_icmp .gt 101, 3) := by decide +kernel
theorem dX3_deal_62 : decode cX3_deal 62 = .ok (.iload 8, 2) := by decide +kernel
theorem dX3_deal_64 : decode cX3_deal 64 = .ok (.bipush 8, 2) := by decide +kernel
theorem dX3_deal_66 : decode cX3_deal 66 = .ok (.if_icmp .ne 7, 3) := by decide +kernel
theorem dX3_deal_69 : decode cX3_deal 69 = .ok (.iconst 1, 1) := by decide +kernel
theorem dX3_deal_70 : decode cX3_deal 70 = .ok (.goto 4, 3) := by decide +kernel
theorem dX3_deal_73 : decode cX3_deal 73 = .ok (.iconst 0, 1) := by decide +kernel
theorem dX3_deal_74 : decode cX3_deal 74 = .ok (.istore 9, 2) := by decide +kernel
theorem dX3_deal_76 : decode cX3_deal 76 = .ok (.iload 9, 2) := by decide +kernel
theorem dX3_deal_78 : decode cX3_deal 78 = .ok (.ifCond .ne 13, 3) := by decide +kernel
theorem dX3_deal_81 : decode cX3_deal 81 = .ok (.aload_n 0, 1) := by decide +kernel
theorem dX3_deal_82 : decode cX3_deal 82 = .ok (.iload_n 1, 1) := by decide +kernel
theorem dX3_deal_83 : decode cX3_deal 83 = .ok (.iload 8, 2) := by decide +kernel
theorem dX3_deal_85 : decode cX3_deal 85 = .ok (.invokevirtual 44, 3) := by decide +kernel
theorem dX3_deal_88 : decode cX3_deal 88 = .ok (.ifCond .eq 66, 3) := by decide +kernel
theorem dX3_deal_91 : decode cX3_deal 91 = .ok (.iload_n 3, 1) := by decide +kernel
theorem dX3_deal_92 : decode cX3_deal 92 = .ok (.iload 7, 2) := by decide +kernel
theorem dX3_deal_94 : decode cX3_deal 94 = .ok (.iload 5, 2) := by decide +kernel
theorem dX3_deal_96 : decode cX3_deal 96 = .ok (.isub, 1) := by decide +kernel
theorem dX3_deal_97 : decode cX3_deal 97 = .ok (.iload_n 2, 1) := by decide +kernel
theorem dX3_deal_98 : decode cX3_deal 98 = .ok (.iadd, 1) := by decide +kernel
theorem dX3_deal_99 : decode cX3_deal 99 = .ok (.iload_n 2, 1) := by decide +kernel
theorem dX3_deal_100 : decode cX3_deal 100 = .ok (.irem, 1) := by decide +kernel
theorem dX3_deal_101 : decode cX3_deal 101 = .ok (.iload 4, 2) := by decide +kernel
theorem dX3_deal_103 : decode cX3_deal 103 = .ok (.if_icmp .ge 7, 3) := by decide +kernel
theorem dX3_deal_106 : decode cX3_deal 106 = .ok (.iconst 1, 1) := by decide +kernel
theorem dX3_deal_107 : decode cX3_deal 107 = .ok (.goto 4, 3) := by decide +kernel
theorem dX3_deal_110 : decode cX3_deal 110 = .ok (.iconst 0, 1) := by decide +kernel
theorem dX3_deal_111 : decode cX3_deal 111 = .ok (.iadd, 1) := by decide +kernel
theorem dX3_deal_112 : decode cX3_deal 112 = .ok (.istore 10, 2) := by decide +kernel
theorem dX3_deal_114 : decode cX3_deal 114 = .ok (.aload_n 0, 1) := by decide +kernel
theorem dX3_deal_115 : decode cX3_deal 115 = .ok (.getfield 23, 3) := by decide +kernel
theorem dX3_deal_118 : decode cX3_deal 118 = .ok (.iload 9, 2) := by decide +kernel
theorem dX3_deal_120 : decode cX3_deal 120 = .ok (.ifCond .eq 7, 3) := by decide +kernel
theorem dX3_deal_123 : decode cX3_deal 123 = .ok (.iload_n 1, 1) := by decide +kernel
theorem dX3_deal_124 : decode cX3_deal 124 = .ok (.goto 5, 3) := by decide +kernel
theorem dX3_deal_127 : decode cX3_deal 127 = .ok (.iload 8, 2) := by decide +kernel
theorem dX3_deal_129 : decode cX3_deal 129 = .ok (.dup2, 1) := by decide +kernel
theorem dX3_deal_130 : decode cX3_deal 130 = .ok (.iaload, 1) := by decide +kernel
theorem dX3_deal_131 : decode cX3_deal 131 = .ok (.iload 10, 2) := by decide +kernel
theorem dX3_deal_133 : decode cX3_deal 133 = .ok (.iadd, 1) := by decide +kernel
theorem dX3_deal_134 : decode cX3_deal 134 = .ok (.iastore, 1) := by decide +kernel
theorem dX3_deal_135 : decode cX3_deal 135 = .ok (.iload 6, 2) := by decide +kernel
theorem dX3_deal_137 : decode cX3_deal 137 = .ok (.iload 9, 2) := by decide +kernel
theorem dX3_deal_139 : decode cX3_deal 139 = .ok (.ifCond .eq 7, 3) := by decide +kernel
theorem dX3_deal_142 : decode cX3_deal 142 = .ok (.iconst 0, 1) := by decide +kernel
theorem dX3_deal_143 : decode cX3_deal 143 = .ok (.goto 5, 3) := by decide +kernel
theorem dX3_deal_146 : decode cX3_deal 146 = .ok (.iload 10, 2) := by decide +kernel
theorem dX3_deal_148 : decode cX3_deal 148 = .ok (.iadd, 1) := by decide +kernel
theorem dX3_deal_149 : decode cX3_deal 149 = .ok (.istore 6, 2) := by decide +kernel
theorem dX3_deal_151 : decode cX3_deal 151 = .ok (.iinc 7 1, 3) := by decide +kernel
theorem dX3_deal_154 : decode cX3_deal 154 = .ok (.iinc 8 1, 3) := by decide +kernel
theorem dX3_deal_157 : decode cX3_deal 157 = .ok (.goto (-102), 3) := by decide +kernel
theorem dX3_deal_160 : decode cX3_deal 160 = .ok (.aload_n 0, 1) := by decide +kernel
theorem dX3_deal_161 : decode cX3_deal 161 = .ok (.getfield 7, 3) := by decide +kernel
theorem dX3_deal_164 : decode cX3_deal 164 = .ok (.bipush 16, 2) := by decide +kernel
theorem dX3_deal_166 : decode cX3_deal 166 = .ok (.iload_n 1, 1) := by decide +kernel
theorem dX3_deal_167 : decode cX3_deal 167 = .ok (.iadd, 1) := by decide +kernel
theorem dX3_deal_168 : decode cX3_deal 168 = .ok (.iload 5, 2) := by decide +kernel
theorem dX3_deal_170 : decode cX3_deal 170 = .ok (.iload 4, 2) := by decide +kernel
theorem dX3_deal_172 : decode cX3_deal 172 = .ok (.iadd, 1) := by decide +kernel
theorem dX3_deal_173 : decode cX3_deal 173 = .ok (.iload_n 2, 1) := by decide +kernel
theorem dX3_deal_174 : decode cX3_deal 174 = .ok (.irem, 1) := by decide +kernel
theorem dX3_deal_175 : decode cX3_deal 175 = .ok (.iastore, 1) := by decide +kernel
theorem dX3_deal_176 : decode cX3_deal 176 = .ok (.iload 6, 2) := by decide +kernel
theorem dX3_deal_178 : decode cX3_deal 178 = .ok (.ireturn, 1) := by decide +kernel
set_option maxRecDepth 20000 in
theorem ggX3_rotor_X3_deal : GoodIn wsX3_rotor wsX3_deal := goodIn_r _ [7, 2, 1, 8, 9, 10, 6, 11, 12, 13, 14, 15, 16, 17, 18, 23, 24, 25, 26, 27, 28, 29, 30, 31, 32, 33] (by decide +kernel) (by decide +kernel)
set_option maxRecDepth 20000 in
theorem gX3_rotor_X3_deal : GoodIn wsX3_rotor (wsV RX3 98 RX3 yX3_deal wsX3_deal) := goodIn_app (goodIn_of _ (by decide +kernel)) ggX3_rotor_X3_deal
set_option maxRecDepth 20000 in
theorem ggX3_rotor_X3_takeNext : GoodIn wsX3_rotor wsX3_takeNext := goodIn_r _ [22, 2, 1, 23, 24, 25, 26, 27, 28, 29, 30, 31, 32, 33] (by decide +kernel) (by decide +kernel)
set_option maxRecDepth 20000 in
theorem gX3_rotor_X3_takeNext : GoodIn wsX3_rotor (wsV RX3 86 RX3 yX3_takeNext wsX3_takeNext) := goodIn_app (goodIn_of _ (by decide +kernel)) ggX3_rotor_X3_takeNext
theorem dX3_rotor_0 : decode cX3_rotor 0 = .ok (.iconst 0, 1) := by decide +kernel
theorem dX3_rotor_1 : decode cX3_rotor 1 = .ok (.istore_n 1, 1) := by decide +kernel
theorem dX3_rotor_2 : decode cX3_rotor 2 = .ok (.iconst 0, 1) := by decide +kernel
theorem dX3_rotor_3 : decode cX3_rotor 3 = .ok (.istore_n 2, 1) := by decide +kernel
theorem dX3_rotor_4 : decode cX3_rotor 4 = .ok (.iload_n 2, 1) := by decide +kernel
theorem dX3_rotor_5 : decode cX3_rotor 5 = .ok (.bipush 8, 2) := by decide +kernel
theorem dX3_rotor_7 : decode cX3_rotor 7 = .ok (.if_icmp .ge 40, 3) := by decide +kernel
theorem dX3_rotor_10 : decode cX3_rotor 10 = .ok (.aload_n 0, 1) := by decide +kernel
theorem dX3_rotor_11 : decode cX3_rotor 11 = .ok (.getfield 23, 3) := by decide +kernel
theorem dX3_rotor_14 : decode cX3_rotor 14 = .ok (.iload_n 2, 1) := by decide +kernel
theorem dX3_rotor_15 : decode cX3_rotor 15 = .ok (.aload_n 0, 1) := by decide +kernel
theorem dX3_rotor_16 : decode cX3_rotor 16 = .ok (.getfield 7, 3) := by decide +kernel
theorem dX3_rotor_19 : decode cX3_rotor 19 = .ok (.bipush 8, 2) := by decide +kernel
theorem dX3_rotor_21 : decode cX3_rotor 21 = .ok (.iload_n 2, 1) := by decide +kernel
theorem dX3_rotor_22 : decode cX3_rotor 22 = .ok (.iadd, 1) := by decide +kernel
theorem dX3_rotor_23 : decode cX3_rotor 23 = .ok (.iaload, 1) := by decide +kernel
theorem dX3_rotor_24 : decode cX3_rotor 24 = .ok (.ifCond .le 7, 3) := by decide +kernel
theorem dX3_rotor_27 : decode cX3_rotor 27 = .ok (.iconst 0, 1) := by decide +kernel
theorem dX3_rotor_28 : decode cX3_rotor 28 = .ok (.goto 12, 3) := by decide +kernel
theorem dX3_rotor_31 : decode cX3_rotor 31 = .ok (.aload_n 0, 1) := by decide +kernel
theorem dX3_rotor_32 : decode cX3_rotor 32 = .ok (.getfield 7, 3) := by decide +kernel
theorem dX3_rotor_35 : decode cX3_rotor 35 = .ok (.bipush 8, 2) := by decide +kernel
theorem dX3_rotor_37 : decode cX3_rotor 37 = .ok (.iload_n 2, 1) := by decide +kernel
theorem dX3_rotor_38 : decode cX3_rotor 38 = .ok (.iadd, 1) := by decide +kernel
theorem dX3_rotor_39 : decode cX3_rotor 39 = .ok (.iaload, 1) := by decide +kernel
theorem dX3_rotor_40 : decode cX3_rotor 40 = .ok (.iastore, 1) := by decide +kernel
theorem dX3_rotor_41 : decode cX3_rotor 41 = .ok (.iinc 2 1, 3) := by decide +kernel
theorem dX3_rotor_44 : decode cX3_rotor 44 = .ok (.goto (-40), 3) := by decide +kernel
theorem dX3_rotor_47 : decode cX3_rotor 47 = .ok (.iconst 0, 1) := by decide +kernel
theorem dX3_rotor_48 : decode cX3_rotor 48 = .ok (.istore_n 2, 1) := by decide +kernel
theorem dX3_rotor_49 : decode cX3_rotor 49 = .ok (.iload_n 2, 1) := by decide +kernel
theorem dX3_rotor_50 : decode cX3_rotor 50 = .ok (.bipush 8, 2) := by decide +kernel
theorem dX3_rotor_52 : decode cX3_rotor 52 = .ok (.if_icmp .ge 33, 3) := by decide +kernel
theorem dX3_rotor_55 : decode cX3_rotor 55 = .ok (.iload_n 1, 1) := by decide +kernel
theorem dX3_rotor_56 : decode cX3_rotor 56 = .ok (.aload_n 0, 1) := by decide +kernel
theorem dX3_rotor_57 : decode cX3_rotor 57 = .ok (.getfield 7, 3) := by decide +kernel
theorem dX3_rotor_60 : decode cX3_rotor 60 = .ok (.bipush 8, 2) := by decide +kernel
theorem dX3_rotor_62 : decode cX3_rotor 62 = .ok (.iload_n 2, 1) := by decide +kernel
theorem dX3_rotor_63 : decode cX3_rotor 63 = .ok (.iadd, 1) := by decide +kernel
theorem dX3_rotor_64 : decode cX3_rotor 64 = .ok (.iaload, 1) := by decide +kernel
theorem dX3_rotor_65 : decode cX3_rotor 65 = .ok (.ifCond .le 11, 3) := by decide +kernel
theorem dX3_rotor_68 : decode cX3_rotor 68 = .ok (.aload_n 0, 1) := by decide +kernel
theorem dX3_rotor_69 : decode cX3_rotor 69 = .ok (.iload_n 2, 1) := by decide +kernel
theorem dX3_rotor_70 : decode cX3_rotor 70 = .ok (.invokevirtual 98, 3) := by decide +kernel
theorem dX3_rotor_73 : decode cX3_rotor 73 = .ok (.goto 4, 3) := by decide +kernel
theorem dX3_rotor_76 : decode cX3_rotor 76 = .ok (.iconst 0, 1) := by decide +kernel
theorem dX3_rotor_77 : decode cX3_rotor 77 = .ok (.iadd, 1) := by decide +kernel
theorem dX3_rotor_78 : decode cX3_rotor 78 = .ok (.istore_n 1, 1) := by decide +kernel
theorem dX3_rotor_79 : decode cX3_rotor 79 = .ok (.iinc 2 1, 3) := by decide +kernel
theorem dX3_rotor_82 : decode cX3_rotor 82 = .ok (.goto (-33), 3) := by decide +kernel
theorem dX3_rotor_85 : decode cX3_rotor 85 = .ok (.aload_n 0, 1) := by decide +kernel
theorem dX3_rotor_86 : decode cX3_rotor 86 = .ok (.invokevirtual 86, 3) := by decide +kernel
theorem dX3_rotor_89 : decode cX3_rotor 89 = .ok (.iload_n 1, 1) := by decide +kernel
theorem dX3_rotor_90 : decode cX3_rotor 90 = .ok (.ireturn, 1) := by decide +kernel
set_option maxRecDepth 20000 in
theorem ggX3_round_X3_flow : GoodIn wsX3_round wsX3_flow := goodIn_r _ [6, 1, 7, 8, 9, 10, 5, 11, 12, 13, 14, 15, 16, 17, 18, 19, 20, 21, 22, 23, 24, 25, 26, 27, 28, 29, 30, 54, 55, 56, 57, 58, 59, 60, 61, 62, 63, 64] (by decide +kernel) (by decide +kernel)
set_option maxRecDepth 20000 in
theorem gX3_round_X3_flow : GoodIn wsX3_round (wsV RX3 101 RX3 yX3_flow wsX3_flow) := goodIn_app (goodIn_of _ (by decide +kernel)) ggX3_round_X3_flow
set_option maxRecDepth 20000 in
theorem ggX3_round_X3_exchange : GoodIn wsX3_round wsX3_exchange := goodIn_r _ [34, 1, 35, 36, 37, 5, 38, 39, 40, 41, 42, 43, 44, 45, 54, 55, 56, 57, 58, 59, 60, 61, 62, 63, 64] (by decide +kernel) (by decide +kernel)
set_option maxRecDepth 20000 in
theorem gX3_round_X3_exchange : GoodIn wsX3_round (wsV RX3 104 RX3 yX3_exchange wsX3_exchange) := goodIn_app (goodIn_of _ (by decide +kernel)) ggX3_round_X3_exchange
set_option maxRecDepth 20000 in
theorem ggX3_round_X3_rotor : GoodIn wsX3_round wsX3_rotor := goodIn_r _ [49, 7, 1, 50, 51, 52, 5, 53, 12, 13, 14, 15, 16, 17, 18, 19, 20, 21, 22, 27, 28, 29, 30, 54, 55, 56, 57, 58, 59, 60, 61, 62, 63, 64] (by decide +kernel) (by decide +kernel)
set_option maxRecDepth 20000 in
theorem gX3_round_X3_rotor : GoodIn wsX3_round (wsV RX3 107 RX3 yX3_rotor wsX3_rotor) := goodIn_app (goodIn_of _ (by decide +kernel)) ggX3_round_X3_rotor
theorem dX3_round_0 : decode cX3_round 0 = .ok (.iload_n 1, 1) := by decide +kernel
theorem dX3_round_1 : decode cX3_round 1 = .ok (.ifCond .ne 10, 3) := by decide +kernel
theorem dX3_round_4 : decode cX3_round 4 = .ok (.aload_n 0, 1) := by decide +kernel
theorem dX3_round_5 : decode cX3_round 5 = .ok (.invokevirtual 101, 3) := by decide +kernel
theorem dX3_round_8 : decode cX3_round 8 = .ok (.goto 19, 3) := by decide +kernel
theorem dX3_round_11 : decode cX3_round 11 = .ok (.iload_n 1, 1) := by decide +kernel
theorem dX3_round_12 : decode cX3_round 12 = .ok (.iconst 1, 1) := by decide +kernel
theorem dX3_round_13 : decode cX3_round 13 = .ok (.if_icmp .ne 10, 3) := by decide +kernel
theorem dX3_round_16 : decode cX3_round 16 = .ok (.aload_n 0, 1) := by decide +kernel
theorem dX3_round_17 : decode cX3_round 17 = .ok (.invokevirtual 104, 3) := by decide +kernel
theorem dX3_round_20 : decode cX3_round 20 = .ok (.goto 7, 3) := by decide +kernel
theorem dX3_round_23 : decode cX3_round 23 = .ok (.aload_n 0, 1) := by decide +kernel
theorem dX3_round_24 : decode cX3_round 24 = .ok (.invokevirtual 107, 3) := by decide +kernel
theorem dX3_round_27 : decode cX3_round 27 = .ok (.istore_n 2, 1) := by decide +kernel
theorem dX3_round_28 : decode cX3_round 28 = .ok (.aload_n 0, 1) := by decide +kernel
theorem dX3_round_29 : decode cX3_round 29 = .ok (.getfield 7, 3) := by decide +kernel
theorem dX3_round_32 : decode cX3_round 32 = .ok (.sipush 152, 3) := by decide +kernel
theorem dX3_round_35 : decode cX3_round 35 = .ok (.dup2, 1) := by decide +kernel
theorem dX3_round_36 : decode cX3_round 36 = .ok (.iaload, 1) := by decide +kernel
theorem dX3_round_37 : decode cX3_round 37 = .ok (.iconst 1, 1) := by decide +kernel
theorem dX3_round_38 : decode cX3_round 38 = .ok (.iadd, 1) := by decide +kernel
theorem dX3_round_39 : decode cX3_round 39 = .ok (.iastore, 1) := by decide +kernel
theorem dX3_round_40 : decode cX3_round 40 = .ok (.iload_n 2, 1) := by decide +kernel
theorem dX3_round_41 : decode cX3_round 41 = .ok (.ireturn, 1) := by decide +kernel
set_option maxRecDepth 20000 in
theorem ggX3_run_X3_in : GoodIn wsX3_run wsX3_in := goodIn_r _ [4] (by decide +kernel) (by decide +kernel)
set_option maxRecDepth 20000 in
theorem gX3_run_X3_in : GoodIn wsX3_run (va_wsS RX3 36 yX3_in wsX3_in) := goodIn_app (goodIn_of _ (by decide +kernel)) ggX3_run_X3_in
set_option maxRecDepth 20000 in
theorem ggX3_run_X3_round : GoodIn wsX3_run wsX3_round := goodIn_r _ [8, 9, 10, 11, 12, 3, 13, 14, 15, 16, 17, 18, 19, 20, 21, 22, 23, 24, 25, 26, 27, 28, 29, 30, 31, 32, 33, 34, 35, 36, 37, 38, 39, 40, 41, 42, 43, 44, 45, 46, 47, 48, 49, 50, 51, 52, 53, 54, 55, 56, 57, 58, 59, 60, 61, 62, 63, 64, 65, 66, 67, 68, 69, 70, 71] (by decide +kernel) (by decide +kernel)
set_option maxRecDepth 20000 in
theorem gX3_run_X3_round : GoodIn wsX3_run (wsV RX3 110 RX3 yX3_round wsX3_round) := goodIn_app (goodIn_of _ (by decide +kernel)) ggX3_run_X3_round
theorem dX3_run_0 : decode cX3_run 0 = .ok (.iload_n 1, 1) := by decide +kernel
theorem dX3_run_1 : decode cX3_run 1 = .ok (.iconst 0, 1) := by decide +kernel
theorem dX3_run_2 : decode cX3_run 2 = .ok (.iconst 2, 1) := by decide +kernel
theorem dX3_run_3 : decode cX3_run 3 = .ok (.invokestatic 36, 3) := by decide +kernel
theorem dX3_run_6 : decode cX3_run 6 = .ok (.ifCond .eq 13, 3) := by decide +kernel
theorem dX3_run_9 : decode cX3_run 9 = .ok (.iload_n 2, 1) := by decide +kernel
theorem dX3_run_10 : decode cX3_run 10 = .ok (.iconst 1, 1) := by decide +kernel
theorem dX3_run_11 : decode cX3_run 11 = .ok (.bipush 50, 2) := by decide +kernel
theorem dX3_run_13 : decode cX3_run 13 = .ok (.invokestatic 36, 3) := by decide +kernel
theorem dX3_run_16 : decode cX3_run 16 = .ok (.ifCond .ne 6, 3) := by decide +kernel
theorem dX3_run_19 : decode cX3_run 19 = .ok (.bipush (-2), 2) := by decide +kernel
theorem dX3_run_21 : decode cX3_run 21 = .ok (.ireturn, 1) := by decide +kernel
theorem dX3_run_22 : decode cX3_run 22 = .ok (.iconst 0, 1) := by decide +kernel
theorem dX3_run_23 : decode cX3_run 23 = .ok (.istore_n 3, 1) := by decide +kernel
theorem dX3_run_24 : decode cX3_run 24 = .ok (.iconst 0, 1) := by decide +kernel
theorem dX3_run_25 : decode cX3_run 25 = .ok (.istore 4, 2) := by decide +kernel
theorem dX3_run_27 : decode cX3_run 27 = .ok (.iload 4, 2) := by decide +kernel
theorem dX3_run_29 : decode cX3_run 29 = .ok (.iload_n 2, 1) := by decide +kernel
theorem dX3_run_30 : decode cX3_run 30 = .ok (.if_icmp .ge 17, 3) := by decide +kernel
theorem dX3_run_33 : decode cX3_run 33 = .ok (.iload_n 3, 1) := by decide +kernel
theorem dX3_run_34 : decode cX3_run 34 = .ok (.aload_n 0, 1) := by decide +kernel
theorem dX3_run_35 : decode cX3_run 35 = .ok (.iload_n 1, 1) := by decide +kernel
theorem dX3_run_36 : decode cX3_run 36 = .ok (.invokevirtual 110, 3) := by decide +kernel
theorem dX3_run_39 : decode cX3_run 39 = .ok (.iadd, 1) := by decide +kernel
theorem dX3_run_40 : decode cX3_run 40 = .ok (.istore_n 3, 1) := by decide +kernel
theorem dX3_run_41 : decode cX3_run 41 = .ok (.iinc 4 1, 3) := by decide +kernel
theorem dX3_run_44 : decode cX3_run 44 = .ok (.goto (-17), 3) := by decide +kernel
theorem dX3_run_47 : decode cX3_run 47 = .ok (.iload_n 3, 1) := by decide +kernel
theorem dX3_run_48 : decode cX3_run 48 = .ok (.ireturn, 1) := by decide +kernel
theorem dX3_reset_0 : decode cX3_reset 0 = .ok (.aload_n 0, 1) := by decide +kernel
theorem dX3_reset_1 : decode cX3_reset 1 = .ok (.getfield 7, 3) := by decide +kernel
theorem dX3_reset_4 : decode cX3_reset 4 = .ok (.sipush 152, 3) := by decide +kernel
theorem dX3_reset_7 : decode cX3_reset 7 = .ok (.iaload, 1) := by decide +kernel
theorem dX3_reset_8 : decode cX3_reset 8 = .ok (.istore_n 1, 1) := by decide +kernel
theorem dX3_reset_9 : decode cX3_reset 9 = .ok (.aload_n 0, 1) := by decide +kernel
theorem dX3_reset_10 : decode cX3_reset 10 = .ok (.getfield 7, 3) := by decide +kernel
theorem dX3_reset_13 : decode cX3_reset 13 = .ok (.sipush 152, 3) := by decide +kernel
theorem dX3_reset_16 : decode cX3_reset 16 = .ok (.iconst 0, 1) := by decide +kernel
theorem dX3_reset_17 : decode cX3_reset 17 = .ok (.iastore, 1) := by decide +kernel
theorem dX3_reset_18 : decode cX3_reset 18 = .ok (.iconst 0, 1) := by decide +kernel
theorem dX3_reset_19 : decode cX3_reset 19 = .ok (.istore_n 2, 1) := by decide +kernel
theorem dX3_reset_20 : decode cX3_reset 20 = .ok (.iload_n 2, 1) := by decide +kernel
theorem dX3_reset_21 : decode cX3_reset 21 = .ok (.bipush 8, 2) := by decide +kernel
theorem dX3_reset_23 : decode cX3_reset 23 = .ok (.if_icmp .ge 19, 3) := by decide +kernel
theorem dX3_reset_26 : decode cX3_reset 26 = .ok (.aload_n 0, 1) := by decide +kernel
theorem dX3_reset_27 : decode cX3_reset 27 = .ok (.getfield 7, 3) := by decide +kernel
theorem dX3_reset_30 : decode cX3_reset 30 = .ok (.bipush 16, 2) := by decide +kernel
theorem dX3_reset_32 : decode cX3_reset 32 = .ok (.iload_n 2, 1) := by decide +kernel
theorem dX3_reset_33 : decode cX3_reset 33 = .ok (.iadd, 1) := by decide +kernel
theorem dX3_reset_34 : decode cX3_reset 34 = .ok (.iconst 0, 1) := by decide +kernel
theorem dX3_reset_35 : decode cX3_reset 35 = .ok (.iastore, 1) := by decide +kernel
theorem dX3_reset_36 : decode cX3_reset 36 = .ok (.iinc 2 1, 3) := by decide +kernel
theorem dX3_reset_39 : decode cX3_reset 39 = .ok (.goto (-19), 3) := by decide +kernel
theorem dX3_reset_42 : decode cX3_reset 42 = .ok (.iconst 0, 1) := by decide +kernel
theorem dX3_reset_43 : decode cX3_reset 43 = .ok (.istore_n 2, 1) := by decide +kernel
theorem dX3_reset_44 : decode cX3_reset 44 = .ok (.iload_n 2, 1) := by decide +kernel
theorem dX3_reset_45 : decode cX3_reset 45 = .ok (.bipush 64, 2) := by decide +kernel
theorem dX3_reset_47 : decode cX3_reset 47 = .ok (.if_icmp .ge 19, 3) := by decide +kernel
theorem dX3_reset_50 : decode cX3_reset 50 = .ok (.aload_n 0, 1) := by decide +kernel
theorem dX3_reset_51 : decode cX3_reset 51 = .ok (.getfield 7, 3) := by decide +kernel
theorem dX3_reset_54 : decode cX3_reset 54 = .ok (.bipush 88, 2) := by decide +kernel
theorem dX3_reset_56 : decode cX3_reset 56 = .ok (.iload_n 2, 1) := by decide +kernel
theorem dX3_reset_57 : decode cX3_reset 57 = .ok (.iadd, 1) := by decide +kernel
theorem dX3_reset_58 : decode cX3_reset 58 = .ok (.iconst 0, 1) := by decide +kernel
theorem dX3_reset_59 : decode cX3_reset 59 = .ok (.iastore, 1) := by decide +kernel
theorem dX3_reset_60 : decode cX3_reset 60 = .ok (.iinc 2 1, 3) := by decide +kernel
theorem dX3_reset_63 : decode cX3_reset 63 = .ok (.goto (-19), 3) := by decide +kernel
theorem dX3_reset_66 : decode cX3_reset 66 = .ok (.iload_n 1, 1) := by decide +kernel
theorem dX3_reset_67 : decode cX3_reset 67 = .ok (.ireturn, 1) := by decide +kernel
theorem dX3_layUneven_0 : decode cX3_layUneven 0 = .ok (.iconst 0, 1) := by decide +kernel
theorem dX3_layUneven_1 : decode cX3_layUneven 1 = .ok (.istore_n 1, 1) := by decide +kernel
theorem dX3_layUneven_2 : decode cX3_layUneven 2 = .ok (.iconst 0, 1) := by decide +kernel
theorem dX3_layUneven_3 : decode cX3_layUneven 3 = .ok (.istore_n 2, 1) := by decide +kernel
theorem dX3_layUneven_4 : decode cX3_layUneven 4 = .ok (.iconst 1, 1) := by decide +kernel
theorem dX3_layUneven_5 : decode cX3_layUneven 5 = .ok (.istore_n 3, 1) := by decide +kernel
theorem dX3_layUneven_6 : decode cX3_layUneven 6 = .ok (.iload_n 3, 1) := by decide +kernel
theorem dX3_layUneven_7 : decode cX3_layUneven 7 = .ok (.bipush 8, 2) := by decide +kernel
theorem dX3_layUneven_9 : decode cX3_layUneven 9 = .ok (.if_icmp .ge 99, 3) := by decide +kernel
theorem dX3_layUneven_12 : decode cX3_layUneven 12 = .ok (.aload_n 0, 1) := by decide +kernel
theorem dX3_layUneven_13 : decode cX3_layUneven 13 = .ok (.getfield 7, 3) := by decide +kernel
theorem dX3_layUneven_16 : decode cX3_layUneven 16 = .ok (.bipush 8, 2) := by decide +kernel
theorem dX3_layUneven_18 : decode cX3_layUneven 18 = .ok (.iload_n 3, 1) := by decide +kernel
theorem dX3_layUneven_19 : decode cX3_layUneven 19 = .ok (.iadd, 1) := by decide +kernel
theorem dX3_layUneven_20 : decode cX3_layUneven 20 = .ok (.iaload, 1) := by decide +kernel
theorem dX3_layUneven_21 : decode cX3_layUneven 21 = .ok (.aload_n 0, 1) := by decide +kernel
theorem dX3_layUneven_22 : decode cX3_layUneven 22 = .ok (.getfield 7, 3) := by decide +kernel
theorem dX3_layUneven_25 : decode cX3_layUneven 25 = .ok (.iconst 0, 1) := by decide +kernel
theorem dX3_layUneven_26 : decode cX3_layUneven 26 = .ok (.iload_n 1, 1) := by decide +kernel
theorem dX3_layUneven_27 : decode cX3_layUneven 27 = .ok (.iadd, 1) := by decide +kernel
theorem dX3_layUneven_28 : decode cX3_layUneven 28 = .ok (.iaload, 1) := by decide +kernel
theorem dX3_layUneven_29 : decode cX3_layUneven 29 = .ok (.imul, 1) := by decide +kernel
theorem dX3_layUneven_30 : decode cX3_layUneven 30 = .ok (.aload_n 0, 1) := by decide +kernel
theorem dX3_layUneven_31 : decode cX3_layUneven 31 = .ok (.getfield 7, 3) := by decide +kernel
theorem dX3_layUneven_34 : decode cX3_layUneven 34 = .ok (.bipush 8, 2) := by decide +kernel
theorem dX3_layUneven_36 : decode cX3_layUneven 36 = .ok (.iload_n 1, 1) := by decide +kernel
theorem dX3_layUneven_37 : decode cX3_layUneven 37 = .ok (.iadd, 1) := by decide +kernel
theorem dX3_layUneven_38 : decode cX3_layUneven 38 = .ok (.iaload, 1) := by decide +kernel
theorem dX3_layUneven_39 : decode cX3_layUneven 39 = .ok (.aload_n 0, 1) := by decide +kernel
theorem dX3_layUneven_40 : decode cX3_layUneven 40 = .ok (.getfield 7, 3) := by decide +kernel
theorem dX3_layUneven_43 : decode cX3_layUneven 43 = .ok (.iconst 0, 1) := by decide +kernel
theorem dX3_layUneven_44 : decode cX3_layUneven 44 = .ok (.iload_n 3, 1) := by decide +kernel
theorem dX3_layUneven_45 : decode cX3_layUneven 45 = .ok (.iadd, 1) := by decide +kernel
theorem dX3_layUneven_46 : decode cX3_layUneven 46 = .ok (.iaload, 1) := by decide +kernel
theorem dX3_layUneven_47 : decode cX3_layUneven 47 = .ok (.imul, 1) := by decide +kernel
theorem dX3_layUneven_48 : decode cX3_layUneven 48 = .ok (.if_icmp .le 7, 3) := by decide +kernel
theorem dX3_layUneven_51 : decode cX3_layUneven 51 = .ok (.iload_n 3, 1) := by decide +kernel
theorem dX3_layUneven_52 : decode cX3_layUneven 52 = .ok (.goto 4, 3) := by decide +kernel
theorem dX3_layUneven_55 : decode cX3_layUneven 55 = .ok (.iload_n 1, 1) := by decide +kernel
theorem dX3_layUneven_56 : decode cX3_layUneven 56 = .ok (.istore_n 1, 1) := by decide +kernel
theorem dX3_layUneven_57 : decode cX3_layUneven 57 = .ok (.aload_n 0, 1) := by decide +kernel
theorem dX3_layUneven_58 : decode cX3_layUneven 58 = .ok (.getfield 7, 3) := by decide +kernel
theorem dX3_layUneven_61 : decode cX3_layUneven 61 = .ok (.bipush 8, 2) := by decide +kernel
theorem dX3_layUneven_63 : decode cX3_layUneven 63 = .ok (.iload_n 3, 1) := by decide +kernel
theorem dX3_layUneven_64 : decode cX3_layUneven 64 = .ok (.iadd, 1) := by decide +kernel
theorem dX3_layUneven_65 : decode cX3_layUneven 65 = .ok (.iaload, 1) := by decide +kernel
theorem dX3_layUneven_66 : decode cX3_layUneven 66 = .ok (.aload_n 0, 1) := by decide +kernel
theorem dX3_layUneven_67 : decode cX3_layUneven 67 = .ok (.getfield 7, 3) := by decide +kernel
theorem dX3_layUneven_70 : decode cX3_layUneven 70 = .ok (.iconst 0, 1) := by decide +kernel
theorem dX3_layUneven_71 : decode cX3_layUneven 71 = .ok (.iload_n 2, 1) := by decide +kernel
theorem dX3_layUneven_72 : decode cX3_layUneven 72 = .ok (.iadd, 1) := by decide +kernel
theorem dX3_layUneven_73 : decode cX3_layUneven 73 = .ok (.iaload, 1) := by decide +kernel
theorem dX3_layUneven_74 : decode cX3_layUneven 74 = .ok (.imul, 1) := by decide +kernel
theorem dX3_layUneven_75 : decode cX3_layUneven 75 = .ok (.aload_n 0, 1) := by decide +kernel
theorem dX3_layUneven_76 : decode cX3_layUneven 76 = .ok (.getfield 7, 3) := by decide +kernel
theorem dX3_layUneven_79 : decode cX3_layUneven 79 = .ok (.bipush 8, 2) := by decide +kernel
theorem dX3_layUneven_81 : decode cX3_layUneven 81 = .ok (.iload_n 2, 1) := by decide +kernel
theorem dX3_layUneven_82 : decode cX3_layUneven 82 = .ok (.iadd, 1) := by decide +kernel
theorem dX3_layUneven_83 : decode cX3_layUneven 83 = .ok (.iaload, 1) := by decide +kernel
theorem dX3_layUneven_84 : decode cX3_layUneven 84 = .ok (.aload_n 0, 1) := by decide +kernel
theorem dX3_layUneven_85 : decode cX3_layUneven 85 = .ok (.getfield 7, 3) := by decide +kernel
theorem dX3_layUneven_88 : decode cX3_layUneven 88 = .ok (.iconst 0, 1) := by decide +kernel
theorem dX3_layUneven_89 : decode cX3_layUneven 89 = .ok (.iload_n 3, 1) := by decide +kernel
theorem dX3_layUneven_90 : decode cX3_layUneven 90 = .ok (.iadd, 1) := by decide +kernel
theorem dX3_layUneven_91 : decode cX3_layUneven 91 = .ok (.iaload, 1) := by decide +kernel
theorem dX3_layUneven_92 : decode cX3_layUneven 92 = .ok (.imul, 1) := by decide +kernel
theorem dX3_layUneven_93 : decode cX3_layUneven 93 = .ok (.if_icmp .ge 7, 3) := by decide +kernel
theorem dX3_layUneven_96 : decode cX3_layUneven 96 = .ok (.iload_n 3, 1) := by decide +kernel
theorem dX3_layUneven_97 : decode cX3_layUneven 97 = .ok (.goto 4, 3) := by decide +kernel
theorem dX3_layUneven_100 : decode cX3_layUneven 100 = .ok (.iload_n 2, 1) := by decide +kernel
theorem dX3_layUneven_101 : decode cX3_layUneven 101 = .ok (.istore_n 2, 1) := by decide +kernel
theorem dX3_layUneven_102 : decode cX3_layUneven 102 = .ok (.iinc 3 1, 3) := by decide +kernel
theorem dX3_layUneven_105 : decode cX3_layUneven 105 = .ok (.goto (-99), 3) := by decide +kernel
theorem dX3_layUneven_108 : decode cX3_layUneven 108 = .ok (.aload_n 0, 1) := by decide +kernel
theorem dX3_layUneven_109 : decode cX3_layUneven 109 = .ok (.aload_n 0, 1) := by decide +kernel
theorem dX3_layUneven_110 : decode cX3_layUneven 110 = .ok (.getfield 7, 3) := by decide +kernel
theorem dX3_layUneven_113 : decode cX3_layUneven 113 = .ok (.bipush 8, 2) := by decide +kernel
theorem dX3_layUneven_115 : decode cX3_layUneven 115 = .ok (.iload_n 1, 1) := by decide +kernel
theorem dX3_layUneven_116 : decode cX3_layUneven 116 = .ok (.iadd, 1) := by decide +kernel
theorem dX3_layUneven_117 : decode cX3_layUneven 117 = .ok (.iaload, 1) := by decide +kernel
theorem dX3_layUneven_118 : decode cX3_layUneven 118 = .ok (.aload_n 0, 1) := by decide +kernel
theorem dX3_layUneven_119 : decode cX3_layUneven 119 = .ok (.getfield 7, 3) := by decide +kernel
theorem dX3_layUneven_122 : decode cX3_layUneven 122 = .ok (.iconst 0, 1) := by decide +kernel
theorem dX3_layUneven_123 : decode cX3_layUneven 123 = .ok (.iload_n 2, 1) := by decide +kernel
theorem dX3_layUneven_124 : decode cX3_layUneven 124 = .ok (.iadd, 1) := by decide +kernel
theorem dX3_layUneven_125 : decode cX3_layUneven 125 = .ok (.iaload, 1) := by decide +kernel
theorem dX3_layUneven_126 : decode cX3_layUneven 126 = .ok (.imul, 1) := by decide +kernel
theorem dX3_layUneven_127 : decode cX3_layUneven 127 = .ok (.aload_n 0, 1) := by decide +kernel
theorem dX3_layUneven_128 : decode cX3_layUneven 128 = .ok (.getfield 7, 3) := by decide +kernel
theorem dX3_layUneven_131 : decode cX3_layUneven 131 = .ok (.bipush 8, 2) := by decide +kernel
theorem dX3_layUneven_133 : decode cX3_layUneven 133 = .ok (.iload_n 2, 1) := by decide +kernel
theorem dX3_layUneven_134 : decode cX3_layUneven 134 = .ok (.iadd, 1) := by decide +kernel
theorem dX3_layUneven_135 : decode cX3_layUneven 135 = .ok (.iaload, 1) := by decide +kernel
theorem dX3_layUneven_136 : decode cX3_layUneven 136 = .ok (.aload_n 0, 1) := by decide +kernel
theorem dX3_layUneven_137 : decode cX3_layUneven 137 = .ok (.getfield 7, 3) := by decide +kernel
theorem dX3_layUneven_140 : decode cX3_layUneven 140 = .ok (.iconst 0, 1) := by decide +kernel
theorem dX3_layUneven_141 : decode cX3_layUneven 141 = .ok (.iload_n 1, 1) := by decide +kernel
theorem dX3_layUneven_142 : decode cX3_layUneven 142 = .ok (.iadd, 1) := by decide +kernel
theorem dX3_layUneven_143 : decode cX3_layUneven 143 = .ok (.iaload, 1) := by decide +kernel
theorem dX3_layUneven_144 : decode cX3_layUneven 144 = .ok (.imul, 1) := by decide +kernel
theorem dX3_layUneven_145 : decode cX3_layUneven 145 = .ok (.isub, 1) := by decide +kernel
theorem dX3_layUneven_146 : decode cX3_layUneven 146 = .ok (.putfield 113, 3) := by decide +kernel
theorem dX3_layUneven_149 : decode cX3_layUneven 149 = .ok (.aload_n 0, 1) := by decide +kernel
theorem dX3_layUneven_150 : decode cX3_layUneven 150 = .ok (.aload_n 0, 1) := by decide +kernel
theorem dX3_layUneven_151 : decode cX3_layUneven 151 = .ok (.getfield 7, 3) := by decide +kernel
theorem dX3_layUneven_154 : decode cX3_layUneven 154 = .ok (.iconst 0, 1) := by decide +kernel
theorem dX3_layUneven_155 : decode cX3_layUneven 155 = .ok (.iload_n 1, 1) := by decide +kernel
theorem dX3_layUneven_156 : decode cX3_layUneven 156 = .ok (.iadd, 1) := by decide +kernel
theorem dX3_layUneven_157 : decode cX3_layUneven 157 = .ok (.iaload, 1) := by decide +kernel
theorem dX3_layUneven_158 : decode cX3_layUneven 158 = .ok (.aload_n 0, 1) := by decide +kernel
theorem dX3_layUneven_159 : decode cX3_layUneven 159 = .ok (.getfield 7, 3) := by decide +kernel
theorem dX3_layUneven_162 : decode cX3_layUneven 162 = .ok (.iconst 0, 1) := by decide +kernel
theorem dX3_layUneven_163 : decode cX3_layUneven 163 = .ok (.iload_n 2, 1) := by decide +kernel
theorem dX3_layUneven_164 : decode cX3_layUneven 164 = .ok (.iadd, 1) := by decide +kernel
theorem dX3_layUneven_165 : decode cX3_layUneven 165 = .ok (.iaload, 1) := by decide +kernel
theorem dX3_layUneven_166 : decode cX3_layUneven 166 = .ok (.imul, 1) := by decide +kernel
theorem dX3_layUneven_167 : decode cX3_layUneven 167 = .ok (.putfield 116, 3) := by decide +kernel
theorem dX3_layUneven_170 : decode cX3_layUneven 170 = .ok (.return_, 1) := by decide +kernel
theorem dX3_common_0 : decode cX3_common 0 = .ok (.lload_n 0, 1) := by decide +kernel
theorem dX3_common_1 : decode cX3_common 1 = .ok (.lstore 4, 2) := by decide +kernel
theorem dX3_common_3 : decode cX3_common 3 = .ok (.lload_n 2, 1) := by decide +kernel
theorem dX3_common_4 : decode cX3_common 4 = .ok (.lstore 6, 2) := by decide +kernel
theorem dX3_common_6 : decode cX3_common 6 = .ok (.lload 6, 2) := by decide +kernel
theorem dX3_common_8 : decode cX3_common 8 = .ok (.lconst 0, 1) := by decide +kernel
theorem dX3_common_9 : decode cX3_common 9 = .ok (.lcmp, 1) := by decide +kernel
theorem dX3_common_10 : decode cX3_common 10 = .ok (.ifCond .eq 21, 3) := by decide +kernel
theorem dX3_common_13 : decode cX3_common 13 = .ok (.lload 4, 2) := by decide +kernel
theorem dX3_common_15 : decode cX3_common 15 = .ok (.lload 6, 2) := by decide +kernel
theorem dX3_common_17 : decode cX3_common 17 = .ok (.lrem, 1) := by decide +kernel
theorem dX3_common_18 : decode cX3_common 18 = .ok (.lstore 8, 2) := by decide +kernel
theorem dX3_common_20 : decode cX3_common 20 = .ok (.lload 6, 2) := by decide +kernel
theorem dX3_common_22 : decode cX3_common 22 = .ok (.lstore 4, 2) := by decide +kernel
theorem dX3_common_24 : decode cX3_common 24 = .ok (.lload 8, 2) := by decide +kernel
theorem dX3_common_26 : decode cX3_common 26 = .ok (.lstore 6, 2) := by decide +kernel
theorem dX3_common_28 : decode cX3_common 28 = .ok (.goto (-22), 3) := by decide +kernel
theorem dX3_common_31 : decode cX3_common 31 = .ok (.lload 4, 2) := by decide +kernel
theorem dX3_common_33 : decode cX3_common 33 = .ok (.lreturn, 1) := by decide +kernel
set_option maxRecDepth 20000 in
theorem ggX3_told__X3_common : GoodIn wsX3_told_ wsX3_common := goodIn_r _ [4] (by decide +kernel) (by decide +kernel)
set_option maxRecDepth 20000 in
theorem gX3_told__X3_common : GoodIn wsX3_told_ (va_wsS RX3 119 yX3_common wsX3_common) := goodIn_app (goodIn_of _ (by decide +kernel)) ggX3_told__X3_common
theorem dX3_told__0 : decode cX3_told_ 0 = .ok (.lload_n 2, 1) := by decide +kernel
theorem dX3_told__1 : decode cX3_told_ 1 = .ok (.lload_n 0, 1) := by decide +kernel
theorem dX3_told__2 : decode cX3_told_ 2 = .ok (.invokestatic 119, 3) := by decide +kernel
theorem dX3_told__5 : decode cX3_told_ 5 = .ok (.lstore 5, 2) := by decide +kernel
theorem dX3_told__7 : decode cX3_told_ 7 = .ok (.iload 4, 2) := by decide +kernel
theorem dX3_told__9 : decode cX3_told_ 9 = .ok (.ifCond .ne 10, 3) := by decide +kernel
theorem dX3_told__12 : decode cX3_told_ 12 = .ok (.lload_n 0, 1) := by decide +kernel
theorem dX3_told__13 : decode cX3_told_ 13 = .ok (.lload 5, 2) := by decide +kernel
theorem dX3_told__15 : decode cX3_told_ 15 = .ok (.ldiv, 1) := by decide +kernel
theorem dX3_told__16 : decode cX3_told_ 16 = .ok (.goto 7, 3) := by decide +kernel
theorem dX3_told__19 : decode cX3_told_ 19 = .ok (.lload_n 2, 1) := by decide +kernel
theorem dX3_told__20 : decode cX3_told_ 20 = .ok (.lload 5, 2) := by decide +kernel
theorem dX3_told__22 : decode cX3_told_ 22 = .ok (.ldiv, 1) := by decide +kernel
theorem dX3_told__23 : decode cX3_told_ 23 = .ok (.lreturn, 1) := by decide +kernel
set_option maxRecDepth 20000 in
theorem ggX3_uneven_X3_in : GoodIn wsX3_uneven wsX3_in := goodIn_r _ [6] (by decide +kernel) (by decide +kernel)
set_option maxRecDepth 20000 in
theorem gX3_uneven_X3_in : GoodIn wsX3_uneven (va_wsS RX3 36 yX3_in wsX3_in) := goodIn_app (goodIn_of _ (by decide +kernel)) ggX3_uneven_X3_in
set_option maxRecDepth 20000 in
theorem ggX3_uneven_X3_layUneven : GoodIn wsX3_uneven wsX3_layUneven := goodIn_r _ [10, 11, 1, 2, 18, 19, 20, 21, 22, 23, 24, 25, 26, 27, 28] (by decide +kernel) (by decide +kernel)
set_option maxRecDepth 20000 in
theorem gX3_uneven_X3_layUneven : GoodIn wsX3_uneven (wsV RX3 123 RX3 yX3_layUneven wsX3_layUneven) := goodIn_app (goodIn_of _ (by decide +kernel)) ggX3_uneven_X3_layUneven
set_option maxRecDepth 20000 in
theorem ggX3_uneven_X3_told_ : GoodIn wsX3_uneven wsX3_told_ := goodIn_r _ [14, 15, 16, 5, 17] (by decide +kernel) (by decide +kernel)
set_option maxRecDepth 20000 in
theorem gX3_uneven_X3_told_ : GoodIn wsX3_uneven (va_wsS RX3 126 yX3_told_ wsX3_told_) := goodIn_app (goodIn_of _ (by decide +kernel)) ggX3_uneven_X3_told_
theorem dX3_uneven_0 : decode cX3_uneven 0 = .ok (.iload_n 1, 1) := by decide +kernel
theorem dX3_uneven_1 : decode cX3_uneven 1 = .ok (.iconst 0, 1) := by decide +kernel
theorem dX3_uneven_2 : decode cX3_uneven 2 = .ok (.iconst 1, 1) := by decide +kernel
theorem dX3_uneven_3 : decode cX3_uneven 3 = .ok (.invokestatic 36, 3) := by decide +kernel
theorem dX3_uneven_6 : decode cX3_uneven 6 = .ok (.ifCond .ne 6, 3) := by decide +kernel
theorem dX3_uneven_9 : decode cX3_uneven 9 = .ok (.bipush (-2), 2) := by decide +kernel
theorem dX3_uneven_11 : decode cX3_uneven 11 = .ok (.ireturn, 1) := by decide +kernel
theorem dX3_uneven_12 : decode cX3_uneven 12 = .ok (.aload_n 0, 1) := by decide +kernel
theorem dX3_uneven_13 : decode cX3_uneven 13 = .ok (.invokevirtual 123, 3) := by decide +kernel
theorem dX3_uneven_16 : decode cX3_uneven 16 = .ok (.aload_n 0, 1) := by decide +kernel
theorem dX3_uneven_17 : decode cX3_uneven 17 = .ok (.getfield 113, 3) := by decide +kernel
theorem dX3_uneven_20 : decode cX3_uneven 20 = .ok (.i2l, 1) := by decide +kernel
theorem dX3_uneven_21 : decode cX3_uneven 21 = .ok (.aload_n 0, 1) := by decide +kernel
theorem dX3_uneven_22 : decode cX3_uneven 22 = .ok (.getfield 116, 3) := by decide +kernel
theorem dX3_uneven_25 : decode cX3_uneven 25 = .ok (.i2l, 1) := by decide +kernel
theorem dX3_uneven_26 : decode cX3_uneven 26 = .ok (.iload_n 1, 1) := by decide +kernel
theorem dX3_uneven_27 : decode cX3_uneven 27 = .ok (.invokestatic 126, 3) := by decide +kernel
theorem dX3_uneven_30 : decode cX3_uneven 30 = .ok (.l2i, 1) := by decide +kernel
theorem dX3_uneven_31 : decode cX3_uneven 31 = .ok (.ireturn, 1) := by decide +kernel
theorem dX3_sumOf_0 : decode cX3_sumOf 0 = .ok (.iconst 0, 1) := by decide +kernel
theorem dX3_sumOf_1 : decode cX3_sumOf 1 = .ok (.istore_n 2, 1) := by decide +kernel
theorem dX3_sumOf_2 : decode cX3_sumOf 2 = .ok (.iconst 0, 1) := by decide +kernel
theorem dX3_sumOf_3 : decode cX3_sumOf 3 = .ok (.istore_n 3, 1) := by decide +kernel
theorem dX3_sumOf_4 : decode cX3_sumOf 4 = .ok (.iload_n 3, 1) := by decide +kernel
theorem dX3_sumOf_5 : decode cX3_sumOf 5 = .ok (.bipush 8, 2) := by decide +kernel
theorem dX3_sumOf_7 : decode cX3_sumOf 7 = .ok (.if_icmp .ge 20, 3) := by decide +kernel
theorem dX3_sumOf_10 : decode cX3_sumOf 10 = .ok (.iload_n 2, 1) := by decide +kernel
theorem dX3_sumOf_11 : decode cX3_sumOf 11 = .ok (.aload_n 0, 1) := by decide +kernel
theorem dX3_sumOf_12 : decode cX3_sumOf 12 = .ok (.getfield 7, 3) := by decide +kernel
theorem dX3_sumOf_15 : decode cX3_sumOf 15 = .ok (.iload_n 1, 1) := by decide +kernel
theorem dX3_sumOf_16 : decode cX3_sumOf 16 = .ok (.iload_n 3, 1) := by decide +kernel
theorem dX3_sumOf_17 : decode cX3_sumOf 17 = .ok (.iadd, 1) := by decide +kernel
theorem dX3_sumOf_18 : decode cX3_sumOf 18 = .ok (.iaload, 1) := by decide +kernel
theorem dX3_sumOf_19 : decode cX3_sumOf 19 = .ok (.iadd, 1) := by decide +kernel
theorem dX3_sumOf_20 : decode cX3_sumOf 20 = .ok (.istore_n 2, 1) := by decide +kernel
theorem dX3_sumOf_21 : decode cX3_sumOf 21 = .ok (.iinc 3 1, 3) := by decide +kernel
theorem dX3_sumOf_24 : decode cX3_sumOf 24 = .ok (.goto (-20), 3) := by decide +kernel
theorem dX3_sumOf_27 : decode cX3_sumOf 27 = .ok (.iload_n 2, 1) := by decide +kernel
theorem dX3_sumOf_28 : decode cX3_sumOf 28 = .ok (.ireturn, 1) := by decide +kernel
set_option maxRecDepth 20000 in
theorem ggX3_share_X3_isNode : GoodIn wsX3_share wsX3_isNode := goodIn_r _ [5, 6, 7, 4, 8] (by decide +kernel) (by decide +kernel)
set_option maxRecDepth 20000 in
theorem gX3_share_X3_isNode : GoodIn wsX3_share (va_wsS RX3 48 yX3_isNode wsX3_isNode) := goodIn_app (goodIn_of _ (by decide +kernel)) ggX3_share_X3_isNode
set_option maxRecDepth 20000 in
theorem ggX3_share_X3_in : GoodIn wsX3_share wsX3_in := goodIn_r _ [8] (by decide +kernel) (by decide +kernel)
set_option maxRecDepth 20000 in
theorem gX3_share_X3_in : GoodIn wsX3_share (va_wsS RX3 36 yX3_in wsX3_in) := goodIn_app (goodIn_of _ (by decide +kernel)) ggX3_share_X3_in
set_option maxRecDepth 20000 in
theorem ggX3_share_X3_sumOf : GoodIn wsX3_share wsX3_sumOf := goodIn_r _ [12, 1, 19, 20, 21, 22, 23, 24, 25, 26, 27, 28, 29] (by decide +kernel) (by decide +kernel)
set_option maxRecDepth 20000 in
theorem gX3_share_X3_sumOf : GoodIn wsX3_share (wsV RX3 130 RX3 yX3_sumOf wsX3_sumOf) := goodIn_app (goodIn_of _ (by decide +kernel)) ggX3_share_X3_sumOf
set_option maxRecDepth 20000 in
theorem ggX3_share_X3_told_ : GoodIn wsX3_share wsX3_told_ := goodIn_r _ [15, 16, 17, 4, 18] (by decide +kernel) (by decide +kernel)
set_option maxRecDepth 20000 in
theorem gX3_share_X3_told_ : GoodIn wsX3_share (va_wsS RX3 126 yX3_told_ wsX3_told_) := goodIn_app (goodIn_of _ (by decide +kernel)) ggX3_share_X3_told_
theorem dX3_share_0 : decode cX3_share 0 = .ok (.iload_n 1, 1) := by decide +kernel
theorem dX3_share_1 : decode cX3_share 1 = .ok (.invokestatic 48, 3) := by decide +kernel
theorem dX3_share_4 : decode cX3_share 4 = .ok (.ifCond .ne 5, 3) := by decide +kernel
theorem dX3_share_7 : decode cX3_share 7 = .ok (.iconst (-1), 1) := by decide +kernel
theorem dX3_share_8 : decode cX3_share 8 = .ok (.ireturn, 1) := by decide +kernel
theorem dX3_share_9 : decode cX3_share 9 = .ok (.iload_n 2, 1) := by decide +kernel
theorem dX3_share_10 : decode cX3_share 10 = .ok (.iconst 0, 1) := by decide +kernel
theorem dX3_share_11 : decode cX3_share 11 = .ok (.iconst 1, 1) := by decide +kernel
theorem dX3_share_12 : decode cX3_share 12 = .ok (.invokestatic 36, 3) := by decide +kernel
theorem dX3_share_15 : decode cX3_share 15 = .ok (.ifCond .ne 6, 3) := by decide +kernel
theorem dX3_share_18 : decode cX3_share 18 = .ok (.bipush (-2), 2) := by decide +kernel
theorem dX3_share_20 : decode cX3_share 20 = .ok (.ireturn, 1) := by decide +kernel
theorem dX3_share_21 : decode cX3_share 21 = .ok (.aload_n 0, 1) := by decide +kernel
theorem dX3_share_22 : decode cX3_share 22 = .ok (.bipush 8, 2) := by decide +kernel
theorem dX3_share_24 : decode cX3_share 24 = .ok (.invokevirtual 130, 3) := by decide +kernel
theorem dX3_share_27 : decode cX3_share 27 = .ok (.ifCond .ge 6, 3) := by decide +kernel
theorem dX3_share_30 : decode cX3_share 30 = .ok (.bipush (-3), 2) := by decide +kernel
theorem dX3_share_32 : decode cX3_share 32 = .ok (.ireturn, 1) := by decide +kernel
theorem dX3_share_33 : decode cX3_share 33 = .ok (.aload_n 0, 1) := by decide +kernel
theorem dX3_share_34 : decode cX3_share 34 = .ok (.bipush 8, 2) := by decide +kernel
theorem dX3_share_36 : decode cX3_share 36 = .ok (.invokevirtual 130, 3) := by decide +kernel
theorem dX3_share_39 : decode cX3_share 39 = .ok (.aload_n 0, 1) := by decide +kernel
theorem dX3_share_40 : decode cX3_share 40 = .ok (.getfield 7, 3) := by decide +kernel
theorem dX3_share_43 : decode cX3_share 43 = .ok (.iconst 0, 1) := by decide +kernel
theorem dX3_share_44 : decode cX3_share 44 = .ok (.iload_n 1, 1) := by decide +kernel
theorem dX3_share_45 : decode cX3_share 45 = .ok (.iadd, 1) := by decide +kernel
theorem dX3_share_46 : decode cX3_share 46 = .ok (.iaload, 1) := by decide +kernel
theorem dX3_share_47 : decode cX3_share 47 = .ok (.imul, 1) := by decide +kernel
theorem dX3_share_48 : decode cX3_share 48 = .ok (.i2l, 1) := by decide +kernel
theorem dX3_share_49 : decode cX3_share 49 = .ok (.aload_n 0, 1) := by decide +kernel
theorem dX3_share_50 : decode cX3_share 50 = .ok (.iconst 0, 1) := by decide +kernel
theorem dX3_share_51 : decode cX3_share 51 = .ok (.invokevirtual 130, 3) := by decide +kernel
theorem dX3_share_54 : decode cX3_share 54 = .ok (.i2l, 1) := by decide +kernel
theorem dX3_share_55 : decode cX3_share 55 = .ok (.iload_n 2, 1) := by decide +kernel
theorem dX3_share_56 : decode cX3_share 56 = .ok (.invokestatic 126, 3) := by decide +kernel
theorem dX3_share_59 : decode cX3_share 59 = .ok (.l2i, 1) := by decide +kernel
theorem dX3_share_60 : decode cX3_share 60 = .ok (.ireturn, 1) := by decide +kernel
set_option maxRecDepth 20000 in
theorem ggX3_potential_X3_sumOf : GoodIn wsX3_potential wsX3_sumOf := goodIn_r _ [6, 1, 7, 8, 9, 10, 11, 12, 13, 14, 15, 16, 17] (by decide +kernel) (by decide +kernel)
set_option maxRecDepth 20000 in
theorem gX3_potential_X3_sumOf : GoodIn wsX3_potential (wsV RX3 130 RX3 yX3_sumOf wsX3_sumOf) := goodIn_app (goodIn_of _ (by decide +kernel)) ggX3_potential_X3_sumOf
theorem dX3_potential_0 : decode cX3_potential 0 = .ok (.lconst 0, 1) := by decide +kernel
theorem dX3_potential_1 : decode cX3_potential 1 = .ok (.lstore_n 1, 1) := by decide +kernel
theorem dX3_potential_2 : decode cX3_potential 2 = .ok (.iconst 0, 1) := by decide +kernel
theorem dX3_potential_3 : decode cX3_potential 3 = .ok (.istore_n 3, 1) := by decide +kernel
theorem dX3_potential_4 : decode cX3_potential 4 = .ok (.iload_n 3, 1) := by decide +kernel
theorem dX3_potential_5 : decode cX3_potential 5 = .ok (.bipush 8, 2) := by decide +kernel
theorem dX3_potential_7 : decode cX3_potential 7 = .ok (.if_icmp .ge 54, 3) := by decide +kernel
theorem dX3_potential_10 : decode cX3_potential 10 = .ok (.aload_n 0, 1) := by decide +kernel
theorem dX3_potential_11 : decode cX3_potential 11 = .ok (.getfield 7, 3) := by decide +kernel
theorem dX3_potential_14 : decode cX3_potential 14 = .ok (.bipush 8, 2) := by decide +kernel
theorem dX3_potential_16 : decode cX3_potential 16 = .ok (.iload_n 3, 1) := by decide +kernel
theorem dX3_potential_17 : decode cX3_potential 17 = .ok (.iadd, 1) := by decide +kernel
theorem dX3_potential_18 : decode cX3_potential 18 = .ok (.iaload, 1) := by decide +kernel
theorem dX3_potential_19 : decode cX3_potential 19 = .ok (.i2l, 1) := by decide +kernel
theorem dX3_potential_20 : decode cX3_potential 20 = .ok (.aload_n 0, 1) := by decide +kernel
theorem dX3_potential_21 : decode cX3_potential 21 = .ok (.iconst 0, 1) := by decide +kernel
theorem dX3_potential_22 : decode cX3_potential 22 = .ok (.invokevirtual 130, 3) := by decide +kernel
theorem dX3_potential_25 : decode cX3_potential 25 = .ok (.i2l, 1) := by decide +kernel
theorem dX3_potential_26 : decode cX3_potential 26 = .ok (.lmul, 1) := by decide +kernel
theorem dX3_potential_27 : decode cX3_potential 27 = .ok (.aload_n 0, 1) := by decide +kernel
theorem dX3_potential_28 : decode cX3_potential 28 = .ok (.bipush 8, 2) := by decide +kernel
theorem dX3_potential_30 : decode cX3_potential 30 = .ok (.invokevirtual 130, 3) := by decide +kernel
theorem dX3_potential_33 : decode cX3_potential 33 = .ok (.i2l, 1) := by decide +kernel
theorem dX3_potential_34 : decode cX3_potential 34 = .ok (.aload_n 0, 1) := by decide +kernel
theorem dX3_potential_35 : decode cX3_potential 35 = .ok (.getfield 7, 3) := by decide +kernel
theorem dX3_potential_38 : decode cX3_potential 38 = .ok (.iconst 0, 1) := by decide +kernel
theorem dX3_potential_39 : decode cX3_potential 39 = .ok (.iload_n 3, 1) := by decide +kernel
theorem dX3_potential_40 : decode cX3_potential 40 = .ok (.iadd, 1) := by decide +kernel
theorem dX3_potential_41 : decode cX3_potential 41 = .ok (.iaload, 1) := by decide +kernel
theorem dX3_potential_42 : decode cX3_potential 42 = .ok (.i2l, 1) := by decide +kernel
theorem dX3_potential_43 : decode cX3_potential 43 = .ok (.lmul, 1) := by decide +kernel
theorem dX3_potential_44 : decode cX3_potential 44 = .ok (.lsub, 1) := by decide +kernel
theorem dX3_potential_45 : decode cX3_potential 45 = .ok (.lstore 4, 2) := by decide +kernel
theorem dX3_potential_47 : decode cX3_potential 47 = .ok (.lload_n 1, 1) := by decide +kernel
theorem dX3_potential_48 : decode cX3_potential 48 = .ok (.lload 4, 2) := by decide +kernel
theorem dX3_potential_50 : decode cX3_potential 50 = .ok (.lload 4, 2) := by decide +kernel
theorem dX3_potential_52 : decode cX3_potential 52 = .ok (.lmul, 1) := by decide +kernel
theorem dX3_potential_53 : decode cX3_potential 53 = .ok (.ladd, 1) := by decide +kernel
theorem dX3_potential_54 : decode cX3_potential 54 = .ok (.lstore_n 1, 1) := by decide +kernel
theorem dX3_potential_55 : decode cX3_potential 55 = .ok (.iinc 3 1, 3) := by decide +kernel
theorem dX3_potential_58 : decode cX3_potential 58 = .ok (.goto (-54), 3) := by decide +kernel
theorem dX3_potential_61 : decode cX3_potential 61 = .ok (.lload_n 1, 1) := by decide +kernel
theorem dX3_potential_62 : decode cX3_potential 62 = .ok (.lreturn, 1) := by decide +kernel
theorem dX3_idealRound_0 : decode cX3_idealRound 0 = .ok (.iconst 0, 1) := by decide +kernel
theorem dX3_idealRound_1 : decode cX3_idealRound 1 = .ok (.istore_n 2, 1) := by decide +kernel
theorem dX3_idealRound_2 : decode cX3_idealRound 2 = .ok (.iload_n 2, 1) := by decide +kernel
theorem dX3_idealRound_3 : decode cX3_idealRound 3 = .ok (.bipush 8, 2) := by decide +kernel
theorem dX3_idealRound_5 : decode cX3_idealRound 5 = .ok (.if_icmp .ge 24, 3) := by decide +kernel
theorem dX3_idealRound_8 : decode cX3_idealRound 8 = .ok (.aload_n 0, 1) := by decide +kernel
theorem dX3_idealRound_9 : decode cX3_idealRound 9 = .ok (.getfield 30, 3) := by decide +kernel
theorem dX3_idealRound_12 : decode cX3_idealRound 12 = .ok (.iload_n 2, 1) := by decide +kernel
theorem dX3_idealRound_13 : decode cX3_idealRound 13 = .ok (.iload_n 1, 1) := by decide +kernel
theorem dX3_idealRound_14 : decode cX3_idealRound 14 = .ok (.i2l, 1) := by decide +kernel
theorem dX3_idealRound_15 : decode cX3_idealRound 15 = .ok (.aload_n 0, 1) := by decide +kernel
theorem dX3_idealRound_16 : decode cX3_idealRound 16 = .ok (.getfield 26, 3) := by decide +kernel
theorem dX3_idealRound_19 : decode cX3_idealRound 19 = .ok (.iload_n 2, 1) := by decide +kernel
theorem dX3_idealRound_20 : decode cX3_idealRound 20 = .ok (.laload, 1) := by decide +kernel
theorem dX3_idealRound_21 : decode cX3_idealRound 21 = .ok (.lmul, 1) := by decide +kernel
theorem dX3_idealRound_22 : decode cX3_idealRound 22 = .ok (.lastore, 1) := by decide +kernel
theorem dX3_idealRound_23 : decode cX3_idealRound 23 = .ok (.iinc 2 1, 3) := by decide +kernel
theorem dX3_idealRound_26 : decode cX3_idealRound 26 = .ok (.goto (-24), 3) := by decide +kernel
theorem dX3_idealRound_29 : decode cX3_idealRound 29 = .ok (.iconst 0, 1) := by decide +kernel
theorem dX3_idealRound_30 : decode cX3_idealRound 30 = .ok (.istore_n 2, 1) := by decide +kernel
theorem dX3_idealRound_31 : decode cX3_idealRound 31 = .ok (.iload_n 2, 1) := by decide +kernel
theorem dX3_idealRound_32 : decode cX3_idealRound 32 = .ok (.bipush 64, 2) := by decide +kernel
theorem dX3_idealRound_34 : decode cX3_idealRound 34 = .ok (.if_icmp .ge 93, 3) := by decide +kernel
theorem dX3_idealRound_37 : decode cX3_idealRound 37 = .ok (.aload_n 0, 1) := by decide +kernel
theorem dX3_idealRound_38 : decode cX3_idealRound 38 = .ok (.getfield 7, 3) := by decide +kernel
theorem dX3_idealRound_41 : decode cX3_idealRound 41 = .ok (.bipush 24, 2) := by decide +kernel
theorem dX3_idealRound_43 : decode cX3_idealRound 43 = .ok (.iload_n 2, 1) := by decide +kernel
theorem dX3_idealRound_44 : decode cX3_idealRound 44 = .ok (.iadd, 1) := by decide +kernel
theorem dX3_idealRound_45 : decode cX3_idealRound 45 = .ok (.iaload, 1) := by decide +kernel
theorem dX3_idealRound_46 : decode cX3_idealRound 46 = .ok (.ifCond .lt 75, 3) := by decide +kernel
theorem dX3_idealRound_49 : decode cX3_idealRound 49 = .ok (.aload_n 0, 1) := by decide +kernel
theorem dX3_idealRound_50 : decode cX3_idealRound 50 = .ok (.getfield 26, 3) := by decide +kernel
theorem dX3_idealRound_53 : decode cX3_idealRound 53 = .ok (.iload_n 2, 1) := by decide +kernel
theorem dX3_idealRound_54 : decode cX3_idealRound 54 = .ok (.bipush 8, 2) := by decide +kernel
theorem dX3_idealRound_56 : decode cX3_idealRound 56 = .ok (.idiv, 1) := by decide +kernel
theorem dX3_idealRound_57 : decode cX3_idealRound 57 = .ok (.laload, 1) := by decide +kernel
theorem dX3_idealRound_58 : decode cX3_idealRound 58 = .ok (.aload_n 0, 1) := by decide +kernel
theorem dX3_idealRound_59 : decode cX3_idealRound 59 = .ok (.getfield 7, 3) := by decide +kernel
theorem dX3_idealRound_62 : decode cX3_idealRound 62 = .ok (.iconst 0, 1) := by decide +kernel
theorem dX3_idealRound_63 : decode cX3_idealRound 63 = .ok (.iload_n 2, 1) := by decide +kernel
theorem dX3_idealRound_64 : decode cX3_idealRound 64 = .ok (.bipush 8, 2) := by decide +kernel
theorem dX3_idealRound_66 : decode cX3_idealRound 66 = .ok (.irem, 1) := by decide +kernel
theorem dX3_idealRound_67 : decode cX3_idealRound 67 = .ok (.iadd, 1) := by decide +kernel
theorem dX3_idealRound_68 : decode cX3_idealRound 68 = .ok (.iaload, 1) := by decide +kernel
theorem dX3_idealRound_69 : decode cX3_idealRound 69 = .ok (.i2l, 1) := by decide +kernel
theorem dX3_idealRound_70 : decode cX3_idealRound 70 = .ok (.lmul, 1) := by decide +kernel
theorem dX3_idealRound_71 : decode cX3_idealRound 71 = .ok (.aload_n 0, 1) := by decide +kernel
theorem dX3_idealRound_72 : decode cX3_idealRound 72 = .ok (.getfield 26, 3) := by decide +kernel
theorem dX3_idealRound_75 : decode cX3_idealRound 75 = .ok (.iload_n 2, 1) := by decide +kernel
theorem dX3_idealRound_76 : decode cX3_idealRound 76 = .ok (.bipush 8, 2) := by decide +kernel
theorem dX3_idealRound_78 : decode cX3_idealRound 78 = .ok (.irem, 1) := by decide +kernel
theorem dX3_idealRound_79 : decode cX3_idealRound 79 = .ok (.laload, 1) := by decide +kernel
theorem dX3_idealRound_80 : decode cX3_idealRound 80 = .ok (.aload_n 0, 1) := by decide +kernel
theorem dX3_idealRound_81 : decode cX3_idealRound 81 = .ok (.getfield 7, 3) := by decide +kernel
theorem dX3_idealRound_84 : decode cX3_idealRound 84 = .ok (.iconst 0, 1) := by decide +kernel
theorem dX3_idealRound_85 : decode cX3_idealRound 85 = .ok (.iload_n 2, 1) := by decide +kernel
theorem dX3_idealRound_86 : decode cX3_idealRound 86 = .ok (.bipush 8, 2) := by decide +kernel
theorem dX3_idealRound_88 : decode cX3_idealRound 88 = .ok (.idiv, 1) := by decide +kernel
theorem dX3_idealRound_89 : decode cX3_idealRound 89 = .ok (.iadd, 1) := by decide +kernel
theorem dX3_idealRound_90 : decode cX3_idealRound 90 = .ok (.iaload, 1) := by decide +kernel
theorem dX3_idealRound_91 : decode cX3_idealRound 91 = .ok (.i2l, 1) := by decide +kernel
theorem dX3_idealRound_92 : decode cX3_idealRound 92 = .ok (.lmul, 1) := by decide +kernel
theorem dX3_idealRound_93 : decode cX3_idealRound 93 = .ok (.lsub, 1) := by decide +kernel
theorem dX3_idealRound_94 : decode cX3_idealRound 94 = .ok (.lstore_n 3, 1) := by decide +kernel
theorem dX3_idealRound_95 : decode cX3_idealRound 95 = .ok (.aload_n 0, 1) := by decide +kernel
theorem dX3_idealRound_96 : decode cX3_idealRound 96 = .ok (.getfield 30, 3) := by decide +kernel
theorem dX3_idealRound_99 : decode cX3_idealRound 99 = .ok (.iload_n 2, 1) := by decide +kernel
theorem dX3_idealRound_100 : decode cX3_idealRound 100 = .ok (.bipush 8, 2) := by decide +kernel
theorem dX3_idealRound_102 : decode cX3_idealRound 102 = .ok (.idiv, 1) := by decide +kernel
theorem dX3_idealRound_103 : decode cX3_idealRound 103 = .ok (.dup2, 1) := by decide +kernel
theorem dX3_idealRound_104 : decode cX3_idealRound 104 = .ok (.laload, 1) := by decide +kernel
theorem dX3_idealRound_105 : decode cX3_idealRound 105 = .ok (.lload_n 3, 1) := by decide +kernel
theorem dX3_idealRound_106 : decode cX3_idealRound 106 = .ok (.lsub, 1) := by decide +kernel
theorem dX3_idealRound_107 : decode cX3_idealRound 107 = .ok (.lastore, 1) := by decide +kernel
theorem dX3_idealRound_108 : decode cX3_idealRound 108 = .ok (.aload_n 0, 1) := by decide +kernel
theorem dX3_idealRound_109 : decode cX3_idealRound 109 = .ok (.getfield 30, 3) := by decide +kernel
theorem dX3_idealRound_112 : decode cX3_idealRound 112 = .ok (.iload_n 2, 1) := by decide +kernel
theorem dX3_idealRound_113 : decode cX3_idealRound 113 = .ok (.bipush 8, 2) := by decide +kernel
theorem dX3_idealRound_115 : decode cX3_idealRound 115 = .ok (.irem, 1) := by decide +kernel
theorem dX3_idealRound_116 : decode cX3_idealRound 116 = .ok (.dup2, 1) := by decide +kernel
theorem dX3_idealRound_117 : decode cX3_idealRound 117 = .ok (.laload, 1) := by decide +kernel
theorem dX3_idealRound_118 : decode cX3_idealRound 118 = .ok (.lload_n 3, 1) := by decide +kernel
theorem dX3_idealRound_119 : decode cX3_idealRound 119 = .ok (.ladd, 1) := by decide +kernel
theorem dX3_idealRound_120 : decode cX3_idealRound 120 = .ok (.lastore, 1) := by decide +kernel
theorem dX3_idealRound_121 : decode cX3_idealRound 121 = .ok (.iinc 2 1, 3) := by decide +kernel
theorem dX3_idealRound_124 : decode cX3_idealRound 124 = .ok (.goto (-93), 3) := by decide +kernel
theorem dX3_idealRound_127 : decode cX3_idealRound 127 = .ok (.iconst 0, 1) := by decide +kernel
theorem dX3_idealRound_128 : decode cX3_idealRound 128 = .ok (.istore_n 2, 1) := by decide +kernel
theorem dX3_idealRound_129 : decode cX3_idealRound 129 = .ok (.iload_n 2, 1) := by decide +kernel
theorem dX3_idealRound_130 : decode cX3_idealRound 130 = .ok (.bipush 8, 2) := by decide +kernel
theorem dX3_idealRound_132 : decode cX3_idealRound 132 = .ok (.if_icmp .ge 21, 3) := by decide +kernel
theorem dX3_idealRound_135 : decode cX3_idealRound 135 = .ok (.aload_n 0, 1) := by decide +kernel
theorem dX3_idealRound_136 : decode cX3_idealRound 136 = .ok (.getfield 26, 3) := by decide +kernel
theorem dX3_idealRound_139 : decode cX3_idealRound 139 = .ok (.iload_n 2, 1) := by decide +kernel
theorem dX3_idealRound_140 : decode cX3_idealRound 140 = .ok (.aload_n 0, 1) := by decide +kernel
theorem dX3_idealRound_141 : decode cX3_idealRound 141 = .ok (.getfield 30, 3) := by decide +kernel
theorem dX3_idealRound_144 : decode cX3_idealRound 144 = .ok (.iload_n 2, 1) := by decide +kernel
theorem dX3_idealRound_145 : decode cX3_idealRound 145 = .ok (.laload, 1) := by decide +kernel
theorem dX3_idealRound_146 : decode cX3_idealRound 146 = .ok (.lastore, 1) := by decide +kernel
theorem dX3_idealRound_147 : decode cX3_idealRound 147 = .ok (.iinc 2 1, 3) := by decide +kernel
theorem dX3_idealRound_150 : decode cX3_idealRound 150 = .ok (.goto (-21), 3) := by decide +kernel
theorem dX3_idealRound_153 : decode cX3_idealRound 153 = .ok (.return_, 1) := by decide +kernel
theorem dX3_isAnyBelow_0 : decode cX3_isAnyBelow 0 = .ok (.iconst 0, 1) := by decide +kernel
theorem dX3_isAnyBelow_1 : decode cX3_isAnyBelow 1 = .ok (.istore_n 1, 1) := by decide +kernel
theorem dX3_isAnyBelow_2 : decode cX3_isAnyBelow 2 = .ok (.iconst 0, 1) := by decide +kernel
theorem dX3_isAnyBelow_3 : decode cX3_isAnyBelow 3 = .ok (.istore_n 2, 1) := by decide +kernel
theorem dX3_isAnyBelow_4 : decode cX3_isAnyBelow 4 = .ok (.iload_n 2, 1) := by decide +kernel
theorem dX3_isAnyBelow_5 : decode cX3_isAnyBelow 5 = .ok (.bipush 8, 2) := by decide +kernel
theorem dX3_isAnyBelow_7 : decode cX3_isAnyBelow 7 = .ok (.if_icmp .ge 31, 3) := by decide +kernel
theorem dX3_isAnyBelow_10 : decode cX3_isAnyBelow 10 = .ok (.iload_n 1, 1) := by decide +kernel
theorem dX3_isAnyBelow_11 : decode cX3_isAnyBelow 11 = .ok (.ifCond .ne 15, 3) := by decide +kernel
theorem dX3_isAnyBelow_14 : decode cX3_isAnyBelow 14 = .ok (.aload_n 0, 1) := by decide +kernel
theorem dX3_isAnyBelow_15 : decode cX3_isAnyBelow 15 = .ok (.getfield 7, 3) := by decide +kernel
theorem dX3_isAnyBelow_18 : decode cX3_isAnyBelow 18 = .ok (.bipush 8, 2) := by decide +kernel
theorem dX3_isAnyBelow_20 : decode cX3_isAnyBelow 20 = .ok (.iload_n 2, 1) := by decide +kernel
theorem dX3_isAnyBelow_21 : decode cX3_isAnyBelow 21 = .ok (.iadd, 1) := by decide +kernel
theorem dX3_isAnyBelow_22 : decode cX3_isAnyBelow 22 = .ok (.iaload, 1) := by decide +kernel
theorem dX3_isAnyBelow_23 : decode cX3_isAnyBelow 23 = .ok (.ifCond .ge 7, 3) := by decide +kernel
theorem dX3_isAnyBelow_26 : decode cX3_isAnyBelow 26 = .ok (.iconst 1, 1) := by decide +kernel
theorem dX3_isAnyBelow_27 : decode cX3_isAnyBelow 27 = .ok (.goto 4, 3) := by decide +kernel
theorem dX3_isAnyBelow_30 : decode cX3_isAnyBelow 30 = .ok (.iconst 0, 1) := by decide +kernel
theorem dX3_isAnyBelow_31 : decode cX3_isAnyBelow 31 = .ok (.istore_n 1, 1) := by decide +kernel
theorem dX3_isAnyBelow_32 : decode cX3_isAnyBelow 32 = .ok (.iinc 2 1, 3) := by decide +kernel
theorem dX3_isAnyBelow_35 : decode cX3_isAnyBelow 35 = .ok (.goto (-31), 3) := by decide +kernel
theorem dX3_isAnyBelow_38 : decode cX3_isAnyBelow 38 = .ok (.iload_n 1, 1) := by decide +kernel
theorem dX3_isAnyBelow_39 : decode cX3_isAnyBelow 39 = .ok (.ireturn, 1) := by decide +kernel
set_option maxRecDepth 20000 in
theorem ggX3_ideal_X3_isNode : GoodIn wsX3_ideal wsX3_isNode := goodIn_r _ [9, 10, 11, 8, 12] (by decide +kernel) (by decide +kernel)
set_option maxRecDepth 20000 in
theorem gX3_ideal_X3_isNode : GoodIn wsX3_ideal (va_wsS RX3 48 yX3_isNode wsX3_isNode) := goodIn_app (goodIn_of _ (by decide +kernel)) ggX3_ideal_X3_isNode
set_option maxRecDepth 20000 in
theorem ggX3_ideal_X3_in : GoodIn wsX3_ideal wsX3_in := goodIn_r _ [12] (by decide +kernel) (by decide +kernel)
set_option maxRecDepth 20000 in
theorem gX3_ideal_X3_in : GoodIn wsX3_ideal (va_wsS RX3 36 yX3_in wsX3_in) := goodIn_app (goodIn_of _ (by decide +kernel)) ggX3_ideal_X3_in
set_option maxRecDepth 20000 in
theorem ggX3_ideal_X3_isAnyBelow : GoodIn wsX3_ideal wsX3_isAnyBelow := goodIn_r _ [16, 5, 43, 44, 45, 46, 47, 48, 49, 50, 51, 52, 53] (by decide +kernel) (by decide +kernel)
set_option maxRecDepth 20000 in
theorem gX3_ideal_X3_isAnyBelow : GoodIn wsX3_ideal (wsV RX3 137 RX3 yX3_isAnyBelow wsX3_isAnyBelow) := goodIn_app (goodIn_of _ (by decide +kernel)) ggX3_ideal_X3_isAnyBelow
set_option maxRecDepth 20000 in
theorem ggX3_ideal_X3_measure : GoodIn wsX3_ideal wsX3_measure := goodIn_r _ [20, 21, 22, 23, 8, 24, 25, 26, 27, 28, 5, 29, 30, 31, 43, 44, 45, 46, 47, 48, 49, 50, 51, 52, 53] (by decide +kernel) (by decide +kernel)
set_option maxRecDepth 20000 in
theorem gX3_ideal_X3_measure : GoodIn wsX3_ideal (wsV RX3 80 RX3 yX3_measure wsX3_measure) := goodIn_app (goodIn_of _ (by decide +kernel)) ggX3_ideal_X3_measure
set_option maxRecDepth 20000 in
theorem ggX3_ideal_X3_idealRound : GoodIn wsX3_ideal wsX3_idealRound := goodIn_r _ [35, 36, 4, 5, 43, 44, 45, 46, 47, 48, 49, 50, 51, 52, 53] (by decide +kernel) (by decide +kernel)
set_option maxRecDepth 20000 in
theorem gX3_ideal_X3_idealRound : GoodIn wsX3_ideal (wsV RX3 143 RX3 yX3_idealRound wsX3_idealRound) := goodIn_app (goodIn_of _ (by decide +kernel)) ggX3_ideal_X3_idealRound
set_option maxRecDepth 20000 in
theorem ggX3_ideal_X3_told_ : GoodIn wsX3_ideal wsX3_told_ := goodIn_r _ [39, 40, 41, 8, 42] (by decide +kernel) (by decide +kernel)
set_option maxRecDepth 20000 in
theorem gX3_ideal_X3_told_ : GoodIn wsX3_ideal (va_wsS RX3 126 yX3_told_ wsX3_told_) := goodIn_app (goodIn_of _ (by decide +kernel)) ggX3_ideal_X3_told_
theorem dX3_ideal_0 : decode cX3_ideal 0 = .ok (.iload_n 1, 1) := by decide +kernel
theorem dX3_ideal_1 : decode cX3_ideal 1 = .ok (.invokestatic 48, 3) := by decide +kernel
theorem dX3_ideal_4 : decode cX3_ideal 4 = .ok (.ifCond .ne 7, 3) := by decide +kernel
theorem dX3_ideal_7 : decode cX3_ideal 7 = .ok (.ldc2_w 133, 3) := by decide +kernel
theorem dX3_ideal_10 : decode cX3_ideal 10 = .ok (.lreturn, 1) := by decide +kernel
theorem dX3_ideal_11 : decode cX3_ideal 11 = .ok (.iload_n 2, 1) := by decide +kernel
theorem dX3_ideal_12 : decode cX3_ideal 12 = .ok (.iconst 0, 1) := by decide +kernel
theorem dX3_ideal_13 : decode cX3_ideal 13 = .ok (.bipush 8, 2) := by decide +kernel
theorem dX3_ideal_15 : decode cX3_ideal 15 = .ok (.invokestatic 36, 3) := by decide +kernel
theorem dX3_ideal_18 : decode cX3_ideal 18 = .ok (.ifCond .eq 12, 3) := by decide +kernel
theorem dX3_ideal_21 : decode cX3_ideal 21 = .ok (.iload_n 3, 1) := by decide +kernel
theorem dX3_ideal_22 : decode cX3_ideal 22 = .ok (.iconst 0, 1) := by decide +kernel
theorem dX3_ideal_23 : decode cX3_ideal 23 = .ok (.iconst 1, 1) := by decide +kernel
theorem dX3_ideal_24 : decode cX3_ideal 24 = .ok (.invokestatic 36, 3) := by decide +kernel
theorem dX3_ideal_27 : decode cX3_ideal 27 = .ok (.ifCond .ne 7, 3) := by decide +kernel
theorem dX3_ideal_30 : decode cX3_ideal 30 = .ok (.ldc2_w 135, 3) := by decide +kernel
theorem dX3_ideal_33 : decode cX3_ideal 33 = .ok (.lreturn, 1) := by decide +kernel
theorem dX3_ideal_34 : decode cX3_ideal 34 = .ok (.aload_n 0, 1) := by decide +kernel
theorem dX3_ideal_35 : decode cX3_ideal 35 = .ok (.invokevirtual 137, 3) := by decide +kernel
theorem dX3_ideal_38 : decode cX3_ideal 38 = .ok (.ifCond .eq 7, 3) := by decide +kernel
theorem dX3_ideal_41 : decode cX3_ideal 41 = .ok (.ldc2_w 141, 3) := by decide +kernel
theorem dX3_ideal_44 : decode cX3_ideal 44 = .ok (.lreturn, 1) := by decide +kernel
theorem dX3_ideal_45 : decode cX3_ideal 45 = .ok (.iconst 0, 1) := by decide +kernel
theorem dX3_ideal_46 : decode cX3_ideal 46 = .ok (.istore 4, 2) := by decide +kernel
theorem dX3_ideal_48 : decode cX3_ideal 48 = .ok (.iload 4, 2) := by decide +kernel
theorem dX3_ideal_50 : decode cX3_ideal 50 = .ok (.bipush 8, 2) := by decide +kernel
theorem dX3_ideal_52 : decode cX3_ideal 52 = .ok (.if_icmp .ge 27, 3) := by decide +kernel
theorem dX3_ideal_55 : decode cX3_ideal 55 = .ok (.aload_n 0, 1) := by decide +kernel
theorem dX3_ideal_56 : decode cX3_ideal 56 = .ok (.getfield 26, 3) := by decide +kernel
theorem dX3_ideal_59 : decode cX3_ideal 59 = .ok (.iload 4, 2) := by decide +kernel
theorem dX3_ideal_61 : decode cX3_ideal 61 = .ok (.aload_n 0, 1) := by decide +kernel
theorem dX3_ideal_62 : decode cX3_ideal 62 = .ok (.getfield 7, 3) := by decide +kernel
theorem dX3_ideal_65 : decode cX3_ideal 65 = .ok (.bipush 8, 2) := by decide +kernel
theorem dX3_ideal_67 : decode cX3_ideal 67 = .ok (.iload 4, 2) := by decide +kernel
theorem dX3_ideal_69 : decode cX3_ideal 69 = .ok (.iadd, 1) := by decide +kernel
theorem dX3_ideal_70 : decode cX3_ideal 70 = .ok (.iaload, 1) := by decide +kernel
theorem dX3_ideal_71 : decode cX3_ideal 71 = .ok (.i2l, 1) := by decide +kernel
theorem dX3_ideal_72 : decode cX3_ideal 72 = .ok (.lastore, 1) := by decide +kernel
theorem dX3_ideal_73 : decode cX3_ideal 73 = .ok (.iinc 4 1, 3) := by decide +kernel
theorem dX3_ideal_76 : decode cX3_ideal 76 = .ok (.goto (-28), 3) := by decide +kernel
theorem dX3_ideal_79 : decode cX3_ideal 79 = .ok (.lconst 1, 1) := by decide +kernel
theorem dX3_ideal_80 : decode cX3_ideal 80 = .ok (.lstore 4, 2) := by decide +kernel
theorem dX3_ideal_82 : decode cX3_ideal 82 = .ok (.iconst 0, 1) := by decide +kernel
theorem dX3_ideal_83 : decode cX3_ideal 83 = .ok (.istore 6, 2) := by decide +kernel
theorem dX3_ideal_85 : decode cX3_ideal 85 = .ok (.iload 6, 2) := by decide +kernel
theorem dX3_ideal_87 : decode cX3_ideal 87 = .ok (.iload_n 2, 1) := by decide +kernel
theorem dX3_ideal_88 : decode cX3_ideal 88 = .ok (.if_icmp .ge 27, 3) := by decide +kernel
theorem dX3_ideal_91 : decode cX3_ideal 91 = .ok (.aload_n 0, 1) := by decide +kernel
theorem dX3_ideal_92 : decode cX3_ideal 92 = .ok (.aload_n 0, 1) := by decide +kernel
theorem dX3_ideal_93 : decode cX3_ideal 93 = .ok (.invokevirtual 80, 3) := by decide +kernel
theorem dX3_ideal_96 : decode cX3_ideal 96 = .ok (.invokevirtual 143, 3) := by decide +kernel
theorem dX3_ideal_99 : decode cX3_ideal 99 = .ok (.lload 4, 2) := by decide +kernel
theorem dX3_ideal_101 : decode cX3_ideal 101 = .ok (.aload_n 0, 1) := by decide +kernel
theorem dX3_ideal_102 : decode cX3_ideal 102 = .ok (.invokevirtual 80, 3) := by decide +kernel
theorem dX3_ideal_105 : decode cX3_ideal 105 = .ok (.i2l, 1) := by decide +kernel
theorem dX3_ideal_106 : decode cX3_ideal 106 = .ok (.lmul, 1) := by decide +kernel
theorem dX3_ideal_107 : decode cX3_ideal 107 = .ok (.lstore 4, 2) := by decide +kernel
theorem dX3_ideal_109 : decode cX3_ideal 109 = .ok (.iinc 6 1, 3) := by decide +kernel
theorem dX3_ideal_112 : decode cX3_ideal 112 = .ok (.goto (-27), 3) := by decide +kernel
theorem dX3_ideal_115 : decode cX3_ideal 115 = .ok (.aload_n 0, 1) := by decide +kernel
theorem dX3_ideal_116 : decode cX3_ideal 116 = .ok (.getfield 26, 3) := by decide +kernel
theorem dX3_ideal_119 : decode cX3_ideal 119 = .ok (.iload_n 1, 1) := by decide +kernel
theorem dX3_ideal_120 : decode cX3_ideal 120 = .ok (.laload, 1) := by decide +kernel
theorem dX3_ideal_121 : decode cX3_ideal 121 = .ok (.lload 4, 2) := by decide +kernel
theorem dX3_ideal_123 : decode cX3_ideal 123 = .ok (.iload_n 3, 1) := by decide +kernel
theorem dX3_ideal_124 : decode cX3_ideal 124 = .ok (.invokestatic 126, 3) := by decide +kernel
theorem dX3_ideal_127 : decode cX3_ideal 127 = .ok (.lreturn, 1) := by decide +kernel
theorem dX3_save_0 : decode cX3_save 0 = .ok (.iconst 0, 1) := by decide +kernel
theorem dX3_save_1 : decode cX3_save 1 = .ok (.istore_n 2, 1) := by decide +kernel
theorem dX3_save_2 : decode cX3_save 2 = .ok (.iload_n 2, 1) := by decide +kernel
theorem dX3_save_3 : decode cX3_save 3 = .ok (.sipush 153, 3) := by decide +kernel
theorem dX3_save_6 : decode cX3_save 6 = .ok (.if_icmp .ge 27, 3) := by decide +kernel
theorem dX3_save_9 : decode cX3_save 9 = .ok (.aload_n 0, 1) := by decide +kernel
theorem dX3_save_10 : decode cX3_save 10 = .ok (.getfield 13, 3) := by decide +kernel
theorem dX3_save_13 : decode cX3_save 13 = .ok (.sipush 153, 3) := by decide +kernel
theorem dX3_save_16 : decode cX3_save 16 = .ok (.iload_n 1, 1) := by decide +kernel
theorem dX3_save_17 : decode cX3_save 17 = .ok (.imul, 1) := by decide +kernel
theorem dX3_save_18 : decode cX3_save 18 = .ok (.iload_n 2, 1) := by decide +kernel
theorem dX3_save_19 : decode cX3_save 19 = .ok (.iadd, 1) := by decide +kernel
theorem dX3_save_20 : decode cX3_save 20 = .ok (.aload_n 0, 1) := by decide +kernel
theorem dX3_save_21 : decode cX3_save 21 = .ok (.getfield 7, 3) := by decide +kernel
theorem dX3_save_24 : decode cX3_save 24 = .ok (.iload_n 2, 1) := by decide +kernel
theorem dX3_save_25 : decode cX3_save 25 = .ok (.iaload, 1) := by decide +kernel
theorem dX3_save_26 : decode cX3_save 26 = .ok (.iastore, 1) := by decide +kernel
theorem dX3_save_27 : decode cX3_save 27 = .ok (.iinc 2 1, 3) := by decide +kernel
theorem dX3_save_30 : decode cX3_save 30 = .ok (.goto (-28), 3) := by decide +kernel
theorem dX3_save_33 : decode cX3_save 33 = .ok (.return_, 1) := by decide +kernel
theorem dX3_load_0 : decode cX3_load 0 = .ok (.iconst 0, 1) := by decide +kernel
theorem dX3_load_1 : decode cX3_load 1 = .ok (.istore_n 2, 1) := by decide +kernel
theorem dX3_load_2 : decode cX3_load 2 = .ok (.iload_n 2, 1) := by decide +kernel
theorem dX3_load_3 : decode cX3_load 3 = .ok (.sipush 153, 3) := by decide +kernel
theorem dX3_load_6 : decode cX3_load 6 = .ok (.if_icmp .ge 27, 3) := by decide +kernel
theorem dX3_load_9 : decode cX3_load 9 = .ok (.aload_n 0, 1) := by decide +kernel
theorem dX3_load_10 : decode cX3_load 10 = .ok (.getfield 7, 3) := by decide +kernel
theorem dX3_load_13 : decode cX3_load 13 = .ok (.iload_n 2, 1) := by decide +kernel
theorem dX3_load_14 : decode cX3_load 14 = .ok (.aload_n 0, 1) := by decide +kernel
theorem dX3_load_15 : decode cX3_load 15 = .ok (.getfield 13, 3) := by decide +kernel
theorem dX3_load_18 : decode cX3_load 18 = .ok (.sipush 153, 3) := by decide +kernel
theorem dX3_load_21 : decode cX3_load 21 = .ok (.iload_n 1, 1) := by decide +kernel
theorem dX3_load_22 : decode cX3_load 22 = .ok (.imul, 1) := by decide +kernel
theorem dX3_load_23 : decode cX3_load 23 = .ok (.iload_n 2, 1) := by decide +kernel
theorem dX3_load_24 : decode cX3_load 24 = .ok (.iadd, 1) := by decide +kernel
theorem dX3_load_25 : decode cX3_load 25 = .ok (.iaload, 1) := by decide +kernel
theorem dX3_load_26 : decode cX3_load 26 = .ok (.iastore, 1) := by decide +kernel
theorem dX3_load_27 : decode cX3_load 27 = .ok (.iinc 2 1, 3) := by decide +kernel
theorem dX3_load_30 : decode cX3_load 30 = .ok (.goto (-28), 3) := by decide +kernel
theorem dX3_load_33 : decode cX3_load 33 = .ok (.return_, 1) := by decide +kernel
set_option maxRecDepth 20000 in
theorem ggX3_isEven_X3_layUneven : GoodIn wsX3_isEven wsX3_layUneven := goodIn_r _ [7, 8, 1, 2, 9, 10, 11, 12, 13, 14, 15, 16, 17, 18, 19] (by decide +kernel) (by decide +kernel)
set_option maxRecDepth 20000 in
theorem gX3_isEven_X3_layUneven : GoodIn wsX3_isEven (wsV RX3 123 RX3 yX3_layUneven wsX3_layUneven) := goodIn_app (goodIn_of _ (by decide +kernel)) ggX3_isEven_X3_layUneven
theorem dX3_isEven_0 : decode cX3_isEven 0 = .ok (.aload_n 0, 1) := by decide +kernel
theorem dX3_isEven_1 : decode cX3_isEven 1 = .ok (.invokevirtual 123, 3) := by decide +kernel
theorem dX3_isEven_4 : decode cX3_isEven 4 = .ok (.aload_n 0, 1) := by decide +kernel
theorem dX3_isEven_5 : decode cX3_isEven 5 = .ok (.getfield 113, 3) := by decide +kernel
theorem dX3_isEven_8 : decode cX3_isEven 8 = .ok (.iload_n 1, 1) := by decide +kernel
theorem dX3_isEven_9 : decode cX3_isEven 9 = .ok (.aload_n 0, 1) := by decide +kernel
theorem dX3_isEven_10 : decode cX3_isEven 10 = .ok (.getfield 116, 3) := by decide +kernel
theorem dX3_isEven_13 : decode cX3_isEven 13 = .ok (.imul, 1) := by decide +kernel
theorem dX3_isEven_14 : decode cX3_isEven 14 = .ok (.if_icmp .gt 7, 3) := by decide +kernel
theorem dX3_isEven_17 : decode cX3_isEven 17 = .ok (.iconst 1, 1) := by decide +kernel
theorem dX3_isEven_18 : decode cX3_isEven 18 = .ok (.goto 4, 3) := by decide +kernel
theorem dX3_isEven_21 : decode cX3_isEven 21 = .ok (.iconst 0, 1) := by decide +kernel
theorem dX3_isEven_22 : decode cX3_isEven 22 = .ok (.ireturn, 1) := by decide +kernel
set_option maxRecDepth 20000 in
theorem ggX3_until_X3_in : GoodIn wsX3_until wsX3_in := goodIn_r _ [4] (by decide +kernel) (by decide +kernel)
set_option maxRecDepth 20000 in
theorem gX3_until_X3_in : GoodIn wsX3_until (va_wsS RX3 36 yX3_in wsX3_in) := goodIn_app (goodIn_of _ (by decide +kernel)) ggX3_until_X3_in
set_option maxRecDepth 20000 in
theorem ggX3_until_X3_save : GoodIn wsX3_until wsX3_save := goodIn_r _ [8, 9, 10, 80, 81, 82, 83, 84, 85, 86, 87, 88, 89, 90] (by decide +kernel) (by decide +kernel)
set_option maxRecDepth 20000 in
theorem gX3_until_X3_save : GoodIn wsX3_until (wsV RX3 147 RX3 yX3_save wsX3_save) := goodIn_app (goodIn_of _ (by decide +kernel)) ggX3_until_X3_save
set_option maxRecDepth 20000 in
theorem ggX3_until_X3_isEven : GoodIn wsX3_until wsX3_isEven := goodIn_r _ [14, 15, 16, 17, 18, 19, 3, 20, 10, 80, 81, 82, 83, 84, 85, 86, 87, 88, 89, 90] (by decide +kernel) (by decide +kernel)
set_option maxRecDepth 20000 in
theorem gX3_until_X3_isEven : GoodIn wsX3_until (wsV RX3 150 RX3 yX3_isEven wsX3_isEven) := goodIn_app (goodIn_of _ (by decide +kernel)) ggX3_until_X3_isEven
set_option maxRecDepth 20000 in
theorem ggX3_until_X3_round : GoodIn wsX3_until wsX3_round := goodIn_r _ [24, 10, 25, 26, 27, 3, 28, 29, 30, 31, 32, 33, 34, 35, 36, 37, 38, 39, 40, 41, 42, 43, 44, 45, 46, 47, 48, 49, 50, 51, 52, 53, 54, 55, 56, 57, 58, 59, 60, 61, 62, 63, 64, 65, 66, 67, 68, 69, 70, 71, 72, 73, 74, 75, 80, 81, 82, 83, 84, 85, 86, 87, 88, 89, 90] (by decide +kernel) (by decide +kernel)
set_option maxRecDepth 20000 in
theorem gX3_until_X3_round : GoodIn wsX3_until (wsV RX3 110 RX3 yX3_round wsX3_round) := goodIn_app (goodIn_of _ (by decide +kernel)) ggX3_until_X3_round
set_option maxRecDepth 20000 in
theorem ggX3_until_X3_load : GoodIn wsX3_until wsX3_load := goodIn_r _ [79, 10, 9, 80, 81, 82, 83, 84, 85, 86, 87, 88, 89, 90] (by decide +kernel) (by decide +kernel)
set_option maxRecDepth 20000 in
theorem gX3_until_X3_load : GoodIn wsX3_until (wsV RX3 153 RX3 yX3_load wsX3_load) := goodIn_app (goodIn_of _ (by decide +kernel)) ggX3_until_X3_load
theorem dX3_until_0 : decode cX3_until 0 = .ok (.iload_n 1, 1) := by decide +kernel
theorem dX3_until_1 : decode cX3_until 1 = .ok (.iconst 0, 1) := by decide +kernel
theorem dX3_until_2 : decode cX3_until 2 = .ok (.iconst 2, 1) := by decide +kernel
theorem dX3_until_3 : decode cX3_until 3 = .ok (.invokestatic 36, 3) := by decide +kernel
theorem dX3_until_6 : decode cX3_until 6 = .ok (.ifCond .eq 13, 3) := by decide +kernel
theorem dX3_until_9 : decode cX3_until 9 = .ok (.iload_n 2, 1) := by decide +kernel
theorem dX3_until_10 : decode cX3_until 10 = .ok (.iconst 0, 1) := by decide +kernel
theorem dX3_until_11 : decode cX3_until 11 = .ok (.bipush 99, 2) := by decide +kernel
theorem dX3_until_13 : decode cX3_until 13 = .ok (.invokestatic 36, 3) := by decide +kernel
theorem dX3_until_16 : decode cX3_until 16 = .ok (.ifCond .ne 6, 3) := by decide +kernel
theorem dX3_until_19 : decode cX3_until 19 = .ok (.bipush (-2), 2) := by decide +kernel
theorem dX3_until_21 : decode cX3_until 21 = .ok (.ireturn, 1) := by decide +kernel
theorem dX3_until_22 : decode cX3_until 22 = .ok (.aload_n 0, 1) := by decide +kernel
theorem dX3_until_23 : decode cX3_until 23 = .ok (.iconst 2, 1) := by decide +kernel
theorem dX3_until_24 : decode cX3_until 24 = .ok (.invokevirtual 147, 3) := by decide +kernel
theorem dX3_until_27 : decode cX3_until 27 = .ok (.iconst 0, 1) := by decide +kernel
theorem dX3_until_28 : decode cX3_until 28 = .ok (.istore_n 3, 1) := by decide +kernel
theorem dX3_until_29 : decode cX3_until 29 = .ok (.iload_n 3, 1) := by decide +kernel
theorem dX3_until_30 : decode cX3_until 30 = .ok (.sipush 200, 3) := by decide +kernel
theorem dX3_until_33 : decode cX3_until 33 = .ok (.if_icmp .ge 23, 3) := by decide +kernel
theorem dX3_until_36 : decode cX3_until 36 = .ok (.aload_n 0, 1) := by decide +kernel
theorem dX3_until_37 : decode cX3_until 37 = .ok (.iload_n 2, 1) := by decide +kernel
theorem dX3_until_38 : decode cX3_until 38 = .ok (.invokevirtual 150, 3) := by decide +kernel
theorem dX3_until_41 : decode cX3_until 41 = .ok (.ifCond .ne 15, 3) := by decide +kernel
theorem dX3_until_44 : decode cX3_until 44 = .ok (.aload_n 0, 1) := by decide +kernel
theorem dX3_until_45 : decode cX3_until 45 = .ok (.iload_n 1, 1) := by decide +kernel
theorem dX3_until_46 : decode cX3_until 46 = .ok (.invokevirtual 110, 3) := by decide +kernel
theorem dX3_until_49 : decode cX3_until 49 = .ok (.pop, 1) := by decide +kernel
theorem dX3_until_50 : decode cX3_until 50 = .ok (.iinc 3 1, 3) := by decide +kernel
theorem dX3_until_53 : decode cX3_until 53 = .ok (.goto (-24), 3) := by decide +kernel
theorem dX3_until_56 : decode cX3_until 56 = .ok (.aload_n 0, 1) := by decide +kernel
theorem dX3_until_57 : decode cX3_until 57 = .ok (.iload_n 2, 1) := by decide +kernel
theorem dX3_until_58 : decode cX3_until 58 = .ok (.invokevirtual 150, 3) := by decide +kernel
theorem dX3_until_61 : decode cX3_until 61 = .ok (.istore 4, 2) := by decide +kernel
theorem dX3_until_63 : decode cX3_until 63 = .ok (.aload_n 0, 1) := by decide +kernel
theorem dX3_until_64 : decode cX3_until 64 = .ok (.iconst 2, 1) := by decide +kernel
theorem dX3_until_65 : decode cX3_until 65 = .ok (.invokevirtual 153, 3) := by decide +kernel
theorem dX3_until_68 : decode cX3_until 68 = .ok (.iload 4, 2) := by decide +kernel
theorem dX3_until_70 : decode cX3_until 70 = .ok (.ifCond .eq 7, 3) := by decide +kernel
theorem dX3_until_73 : decode cX3_until 73 = .ok (.iload_n 3, 1) := by decide +kernel
theorem dX3_until_74 : decode cX3_until 74 = .ok (.goto 5, 3) := by decide +kernel
theorem dX3_until_77 : decode cX3_until 77 = .ok (.bipush (-6), 2) := by decide +kernel
theorem dX3_until_79 : decode cX3_until 79 = .ok (.ireturn, 1) := by decide +kernel
set_option maxRecDepth 20000 in
theorem ggX3_layTime_X3_edgesOf : GoodIn wsX3_layTime wsX3_edgesOf := goodIn_r _ [7, 8, 9, 10, 6, 11, 2, 12, 13, 14, 19, 20, 21, 22, 23, 24, 25, 26, 27, 28, 29] (by decide +kernel) (by decide +kernel)
set_option maxRecDepth 20000 in
theorem gX3_layTime_X3_edgesOf : GoodIn wsX3_layTime (wsV RX3 77 RX3 yX3_edgesOf wsX3_edgesOf) := goodIn_app (goodIn_of _ (by decide +kernel)) ggX3_layTime_X3_edgesOf
set_option maxRecDepth 20000 in
theorem ggX3_layTime_X3_colours : GoodIn wsX3_layTime wsX3_colours := goodIn_r _ [18, 2, 19, 20, 21, 22, 23, 24, 25, 26, 27, 28, 29] (by decide +kernel) (by decide +kernel)
set_option maxRecDepth 20000 in
theorem gX3_layTime_X3_colours : GoodIn wsX3_layTime (wsV RX3 92 RX3 yX3_colours wsX3_colours) := goodIn_app (goodIn_of _ (by decide +kernel)) ggX3_layTime_X3_colours
theorem dX3_layTime_0 : decode cX3_layTime 0 = .ok (.iconst 0, 1) := by decide +kernel
theorem dX3_layTime_1 : decode cX3_layTime 1 = .ok (.istore_n 2, 1) := by decide +kernel
theorem dX3_layTime_2 : decode cX3_layTime 2 = .ok (.iload_n 2, 1) := by decide +kernel
theorem dX3_layTime_3 : decode cX3_layTime 3 = .ok (.bipush 8, 2) := by decide +kernel
theorem dX3_layTime_5 : decode cX3_layTime 5 = .ok (.if_icmp .ge 60, 3) := by decide +kernel
theorem dX3_layTime_8 : decode cX3_layTime 8 = .ok (.aload_n 0, 1) := by decide +kernel
theorem dX3_layTime_9 : decode cX3_layTime 9 = .ok (.getfield 33, 3) := by decide +kernel
theorem dX3_layTime_12 : decode cX3_layTime 12 = .ok (.bipush 81, 2) := by decide +kernel
theorem dX3_layTime_14 : decode cX3_layTime 14 = .ok (.iload_n 1, 1) := by decide +kernel
theorem dX3_layTime_15 : decode cX3_layTime 15 = .ok (.imul, 1) := by decide +kernel
theorem dX3_layTime_16 : decode cX3_layTime 16 = .ok (.iload_n 2, 1) := by decide +kernel
theorem dX3_layTime_17 : decode cX3_layTime 17 = .ok (.iadd, 1) := by decide +kernel
theorem dX3_layTime_18 : decode cX3_layTime 18 = .ok (.aload_n 0, 1) := by decide +kernel
theorem dX3_layTime_19 : decode cX3_layTime 19 = .ok (.getfield 7, 3) := by decide +kernel
theorem dX3_layTime_22 : decode cX3_layTime 22 = .ok (.bipush 8, 2) := by decide +kernel
theorem dX3_layTime_24 : decode cX3_layTime 24 = .ok (.iload_n 2, 1) := by decide +kernel
theorem dX3_layTime_25 : decode cX3_layTime 25 = .ok (.iadd, 1) := by decide +kernel
theorem dX3_layTime_26 : decode cX3_layTime 26 = .ok (.iaload, 1) := by decide +kernel
theorem dX3_layTime_27 : decode cX3_layTime 27 = .ok (.iastore, 1) := by decide +kernel
theorem dX3_layTime_28 : decode cX3_layTime 28 = .ok (.aload_n 0, 1) := by decide +kernel
theorem dX3_layTime_29 : decode cX3_layTime 29 = .ok (.getfield 33, 3) := by decide +kernel
theorem dX3_layTime_32 : decode cX3_layTime 32 = .ok (.bipush 81, 2) := by decide +kernel
theorem dX3_layTime_34 : decode cX3_layTime 34 = .ok (.iload_n 1, 1) := by decide +kernel
theorem dX3_layTime_35 : decode cX3_layTime 35 = .ok (.imul, 1) := by decide +kernel
theorem dX3_layTime_36 : decode cX3_layTime 36 = .ok (.bipush 8, 2) := by decide +kernel
theorem dX3_layTime_38 : decode cX3_layTime 38 = .ok (.iadd, 1) := by decide +kernel
theorem dX3_layTime_39 : decode cX3_layTime 39 = .ok (.iload_n 2, 1) := by decide +kernel
theorem dX3_layTime_40 : decode cX3_layTime 40 = .ok (.iadd, 1) := by decide +kernel
theorem dX3_layTime_41 : decode cX3_layTime 41 = .ok (.aload_n 0, 1) := by decide +kernel
theorem dX3_layTime_42 : decode cX3_layTime 42 = .ok (.getfield 7, 3) := by decide +kernel
theorem dX3_layTime_45 : decode cX3_layTime 45 = .ok (.bipush 16, 2) := by decide +kernel
theorem dX3_layTime_47 : decode cX3_layTime 47 = .ok (.iload_n 2, 1) := by decide +kernel
theorem dX3_layTime_48 : decode cX3_layTime 48 = .ok (.iadd, 1) := by decide +kernel
theorem dX3_layTime_49 : decode cX3_layTime 49 = .ok (.iaload, 1) := by decide +kernel
theorem dX3_layTime_50 : decode cX3_layTime 50 = .ok (.aload_n 0, 1) := by decide +kernel
theorem dX3_layTime_51 : decode cX3_layTime 51 = .ok (.iload_n 2, 1) := by decide +kernel
theorem dX3_layTime_52 : decode cX3_layTime 52 = .ok (.invokevirtual 77, 3) := by decide +kernel
theorem dX3_layTime_55 : decode cX3_layTime 55 = .ok (.iconst 1, 1) := by decide +kernel
theorem dX3_layTime_56 : decode cX3_layTime 56 = .ok (.iadd, 1) := by decide +kernel
theorem dX3_layTime_57 : decode cX3_layTime 57 = .ok (.irem, 1) := by decide +kernel
theorem dX3_layTime_58 : decode cX3_layTime 58 = .ok (.iastore, 1) := by decide +kernel
theorem dX3_layTime_59 : decode cX3_layTime 59 = .ok (.iinc 2 1, 3) := by decide +kernel
theorem dX3_layTime_62 : decode cX3_layTime 62 = .ok (.goto (-60), 3) := by decide +kernel
theorem dX3_layTime_65 : decode cX3_layTime 65 = .ok (.iconst 0, 1) := by decide +kernel
theorem dX3_layTime_66 : decode cX3_layTime 66 = .ok (.istore_n 2, 1) := by decide +kernel
theorem dX3_layTime_67 : decode cX3_layTime 67 = .ok (.iload_n 2, 1) := by decide +kernel
theorem dX3_layTime_68 : decode cX3_layTime 68 = .ok (.bipush 64, 2) := by decide +kernel
theorem dX3_layTime_70 : decode cX3_layTime 70 = .ok (.if_icmp .ge 48, 3) := by decide +kernel
theorem dX3_layTime_73 : decode cX3_layTime 73 = .ok (.aload_n 0, 1) := by decide +kernel
theorem dX3_layTime_74 : decode cX3_layTime 74 = .ok (.getfield 33, 3) := by decide +kernel
theorem dX3_layTime_77 : decode cX3_layTime 77 = .ok (.bipush 81, 2) := by decide +kernel
theorem dX3_layTime_79 : decode cX3_layTime 79 = .ok (.iload_n 1, 1) := by decide +kernel
theorem dX3_layTime_80 : decode cX3_layTime 80 = .ok (.imul, 1) := by decide +kernel
theorem dX3_layTime_81 : decode cX3_layTime 81 = .ok (.bipush 16, 2) := by decide +kernel
theorem dX3_layTime_83 : decode cX3_layTime 83 = .ok (.iadd, 1) := by decide +kernel
theorem dX3_layTime_84 : decode cX3_layTime 84 = .ok (.iload_n 2, 1) := by decide +kernel
theorem dX3_layTime_85 : decode cX3_layTime 85 = .ok (.iadd, 1) := by decide +kernel
theorem dX3_layTime_86 : decode cX3_layTime 86 = .ok (.aload_n 0, 1) := by decide +kernel
theorem dX3_layTime_87 : decode cX3_layTime 87 = .ok (.getfield 7, 3) := by decide +kernel
theorem dX3_layTime_90 : decode cX3_layTime 90 = .ok (.bipush 24, 2) := by decide +kernel
theorem dX3_layTime_92 : decode cX3_layTime 92 = .ok (.iload_n 2, 1) := by decide +kernel
theorem dX3_layTime_93 : decode cX3_layTime 93 = .ok (.iadd, 1) := by decide +kernel
theorem dX3_layTime_94 : decode cX3_layTime 94 = .ok (.iaload, 1) := by decide +kernel
theorem dX3_layTime_95 : decode cX3_layTime 95 = .ok (.ifCond .lt 15, 3) := by decide +kernel
theorem dX3_layTime_98 : decode cX3_layTime 98 = .ok (.aload_n 0, 1) := by decide +kernel
theorem dX3_layTime_99 : decode cX3_layTime 99 = .ok (.getfield 7, 3) := by decide +kernel
theorem dX3_layTime_102 : decode cX3_layTime 102 = .ok (.bipush 88, 2) := by decide +kernel
theorem dX3_layTime_104 : decode cX3_layTime 104 = .ok (.iload_n 2, 1) := by decide +kernel
theorem dX3_layTime_105 : decode cX3_layTime 105 = .ok (.iadd, 1) := by decide +kernel
theorem dX3_layTime_106 : decode cX3_layTime 106 = .ok (.iaload, 1) := by decide +kernel
theorem dX3_layTime_107 : decode cX3_layTime 107 = .ok (.goto 4, 3) := by decide +kernel
theorem dX3_layTime_110 : decode cX3_layTime 110 = .ok (.iconst 0, 1) := by decide +kernel
theorem dX3_layTime_111 : decode cX3_layTime 111 = .ok (.iastore, 1) := by decide +kernel
theorem dX3_layTime_112 : decode cX3_layTime 112 = .ok (.iinc 2 1, 3) := by decide +kernel
theorem dX3_layTime_115 : decode cX3_layTime 115 = .ok (.goto (-48), 3) := by decide +kernel
theorem dX3_layTime_118 : decode cX3_layTime 118 = .ok (.aload_n 0, 1) := by decide +kernel
theorem dX3_layTime_119 : decode cX3_layTime 119 = .ok (.getfield 33, 3) := by decide +kernel
theorem dX3_layTime_122 : decode cX3_layTime 122 = .ok (.bipush 81, 2) := by decide +kernel
theorem dX3_layTime_124 : decode cX3_layTime 124 = .ok (.iload_n 1, 1) := by decide +kernel
theorem dX3_layTime_125 : decode cX3_layTime 125 = .ok (.imul, 1) := by decide +kernel
theorem dX3_layTime_126 : decode cX3_layTime 126 = .ok (.bipush 80, 2) := by decide +kernel
theorem dX3_layTime_128 : decode cX3_layTime 128 = .ok (.iadd, 1) := by decide +kernel
theorem dX3_layTime_129 : decode cX3_layTime 129 = .ok (.aload_n 0, 1) := by decide +kernel
theorem dX3_layTime_130 : decode cX3_layTime 130 = .ok (.getfield 7, 3) := by decide +kernel
theorem dX3_layTime_133 : decode cX3_layTime 133 = .ok (.sipush 152, 3) := by decide +kernel
theorem dX3_layTime_136 : decode cX3_layTime 136 = .ok (.iaload, 1) := by decide +kernel
theorem dX3_layTime_137 : decode cX3_layTime 137 = .ok (.aload_n 0, 1) := by decide +kernel
theorem dX3_layTime_138 : decode cX3_layTime 138 = .ok (.invokevirtual 92, 3) := by decide +kernel
theorem dX3_layTime_141 : decode cX3_layTime 141 = .ok (.irem, 1) := by decide +kernel
theorem dX3_layTime_142 : decode cX3_layTime 142 = .ok (.iastore, 1) := by decide +kernel
theorem dX3_layTime_143 : decode cX3_layTime 143 = .ok (.return_, 1) := by decide +kernel
theorem dX3_isAlike_0 : decode cX3_isAlike 0 = .ok (.iconst 0, 1) := by decide +kernel
theorem dX3_isAlike_1 : decode cX3_isAlike 1 = .ok (.istore_n 3, 1) := by decide +kernel
theorem dX3_isAlike_2 : decode cX3_isAlike 2 = .ok (.iload_n 3, 1) := by decide +kernel
theorem dX3_isAlike_3 : decode cX3_isAlike 3 = .ok (.bipush 81, 2) := by decide +kernel
theorem dX3_isAlike_5 : decode cX3_isAlike 5 = .ok (.if_icmp .ge 36, 3) := by decide +kernel
theorem dX3_isAlike_8 : decode cX3_isAlike 8 = .ok (.aload_n 0, 1) := by decide +kernel
theorem dX3_isAlike_9 : decode cX3_isAlike 9 = .ok (.getfield 33, 3) := by decide +kernel
theorem dX3_isAlike_12 : decode cX3_isAlike 12 = .ok (.bipush 81, 2) := by decide +kernel
theorem dX3_isAlike_14 : decode cX3_isAlike 14 = .ok (.iload_n 1, 1) := by decide +kernel
theorem dX3_isAlike_15 : decode cX3_isAlike 15 = .ok (.imul, 1) := by decide +kernel
theorem dX3_isAlike_16 : decode cX3_isAlike 16 = .ok (.iload_n 3, 1) := by decide +kernel
theorem dX3_isAlike_17 : decode cX3_isAlike 17 = .ok (.iadd, 1) := by decide +kernel
theorem dX3_isAlike_18 : decode cX3_isAlike 18 = .ok (.iaload, 1) := by decide +kernel
theorem dX3_isAlike_19 : decode cX3_isAlike 19 = .ok (.aload_n 0, 1) := by decide +kernel
theorem dX3_isAlike_20 : decode cX3_isAlike 20 = .ok (.getfield 33, 3) := by decide +kernel
theorem dX3_isAlike_23 : decode cX3_isAlike 23 = .ok (.bipush 81, 2) := by decide +kernel
theorem dX3_isAlike_25 : decode cX3_isAlike 25 = .ok (.iload_n 2, 1) := by decide +kernel
theorem dX3_isAlike_26 : decode cX3_isAlike 26 = .ok (.imul, 1) := by decide +kernel
theorem dX3_isAlike_27 : decode cX3_isAlike 27 = .ok (.iload_n 3, 1) := by decide +kernel
theorem dX3_isAlike_28 : decode cX3_isAlike 28 = .ok (.iadd, 1) := by decide +kernel
theorem dX3_isAlike_29 : decode cX3_isAlike 29 = .ok (.iaload, 1) := by decide +kernel
theorem dX3_isAlike_30 : decode cX3_isAlike 30 = .ok (.if_icmp .eq 5, 3) := by decide +kernel
theorem dX3_isAlike_33 : decode cX3_isAlike 33 = .ok (.iconst 0, 1) := by decide +kernel
theorem dX3_isAlike_34 : decode cX3_isAlike 34 = .ok (.ireturn, 1) := by decide +kernel
theorem dX3_isAlike_35 : decode cX3_isAlike 35 = .ok (.iinc 3 1, 3) := by decide +kernel
theorem dX3_isAlike_38 : decode cX3_isAlike 38 = .ok (.goto (-36), 3) := by decide +kernel
theorem dX3_isAlike_41 : decode cX3_isAlike 41 = .ok (.iconst 1, 1) := by decide +kernel
theorem dX3_isAlike_42 : decode cX3_isAlike 42 = .ok (.ireturn, 1) := by decide +kernel
set_option maxRecDepth 20000 in
theorem ggX3_ring_X3_in : GoodIn wsX3_ring wsX3_in := goodIn_r _ [4] (by decide +kernel) (by decide +kernel)
set_option maxRecDepth 20000 in
theorem gX3_ring_X3_in : GoodIn wsX3_ring (va_wsS RX3 36 yX3_in wsX3_in) := goodIn_app (goodIn_of _ (by decide +kernel)) ggX3_ring_X3_in
set_option maxRecDepth 20000 in
theorem ggX3_ring_X3_save : GoodIn wsX3_ring wsX3_save := goodIn_r _ [8, 9, 10, 79, 80, 81, 82, 83, 84, 85, 86, 87, 88, 89] (by decide +kernel) (by decide +kernel)
set_option maxRecDepth 20000 in
theorem gX3_ring_X3_save : GoodIn wsX3_ring (wsV RX3 147 RX3 yX3_save wsX3_save) := goodIn_app (goodIn_of _ (by decide +kernel)) ggX3_ring_X3_save
set_option maxRecDepth 20000 in
theorem ggX3_ring_X3_layTime : GoodIn wsX3_ring wsX3_layTime := goodIn_r _ [14, 15, 10, 16, 17, 18, 3, 19, 20, 21, 22, 23, 24, 25, 26, 27, 28, 29, 30, 79, 80, 81, 82, 83, 84, 85, 86, 87, 88, 89] (by decide +kernel) (by decide +kernel)
set_option maxRecDepth 20000 in
theorem gX3_ring_X3_layTime : GoodIn wsX3_ring (wsV RX3 156 RX3 yX3_layTime wsX3_layTime) := goodIn_app (goodIn_of _ (by decide +kernel)) ggX3_ring_X3_layTime
set_option maxRecDepth 20000 in
theorem ggX3_ring_X3_round : GoodIn wsX3_ring wsX3_round := goodIn_r _ [34, 10, 35, 36, 37, 3, 38, 39, 40, 41, 42, 43, 16, 17, 18, 19, 20, 21, 22, 23, 24, 25, 26, 44, 45, 46, 47, 48, 49, 50, 51, 52, 53, 54, 55, 27, 28, 29, 30, 56, 57, 58, 59, 60, 61, 62, 63, 64, 65, 66, 67, 68, 69, 70, 79, 80, 81, 82, 83, 84, 85, 86, 87, 88, 89] (by decide +kernel) (by decide +kernel)
set_option maxRecDepth 20000 in
theorem gX3_ring_X3_round : GoodIn wsX3_ring (wsV RX3 110 RX3 yX3_round wsX3_round) := goodIn_app (goodIn_of _ (by decide +kernel)) ggX3_ring_X3_round
set_option maxRecDepth 20000 in
theorem ggX3_ring_X3_load : GoodIn wsX3_ring wsX3_load := goodIn_r _ [74, 10, 9, 79, 80, 81, 82, 83, 84, 85, 86, 87, 88, 89] (by decide +kernel) (by decide +kernel)
set_option maxRecDepth 20000 in
theorem gX3_ring_X3_load : GoodIn wsX3_ring (wsV RX3 153 RX3 yX3_load wsX3_load) := goodIn_app (goodIn_of _ (by decide +kernel)) ggX3_ring_X3_load
set_option maxRecDepth 20000 in
theorem ggX3_ring_X3_isAlike : GoodIn wsX3_ring wsX3_isAlike := goodIn_r _ [78, 15, 79, 80, 81, 82, 83, 84, 85, 86, 87, 88, 89] (by decide +kernel) (by decide +kernel)
set_option maxRecDepth 20000 in
theorem gX3_ring_X3_isAlike : GoodIn wsX3_ring (wsV RX3 159 RX3 yX3_isAlike wsX3_isAlike) := goodIn_app (goodIn_of _ (by decide +kernel)) ggX3_ring_X3_isAlike
theorem dX3_ring_0 : decode cX3_ring 0 = .ok (.iload_n 1, 1) := by decide +kernel
theorem dX3_ring_1 : decode cX3_ring 1 = .ok (.iconst 0, 1) := by decide +kernel
theorem dX3_ring_2 : decode cX3_ring 2 = .ok (.iconst 2, 1) := by decide +kernel
theorem dX3_ring_3 : decode cX3_ring 3 = .ok (.invokestatic 36, 3) := by decide +kernel
theorem dX3_ring_6 : decode cX3_ring 6 = .ok (.ifCond .eq 12, 3) := by decide +kernel
theorem dX3_ring_9 : decode cX3_ring 9 = .ok (.iload_n 2, 1) := by decide +kernel
theorem dX3_ring_10 : decode cX3_ring 10 = .ok (.iconst 0, 1) := by decide +kernel
theorem dX3_ring_11 : decode cX3_ring 11 = .ok (.iconst 1, 1) := by decide +kernel
theorem dX3_ring_12 : decode cX3_ring 12 = .ok (.invokestatic 36, 3) := by decide +kernel
theorem dX3_ring_15 : decode cX3_ring 15 = .ok (.ifCond .ne 6, 3) := by decide +kernel
theorem dX3_ring_18 : decode cX3_ring 18 = .ok (.bipush (-2), 2) := by decide +kernel
theorem dX3_ring_20 : decode cX3_ring 20 = .ok (.ireturn, 1) := by decide +kernel
theorem dX3_ring_21 : decode cX3_ring 21 = .ok (.aload_n 0, 1) := by decide +kernel
theorem dX3_ring_22 : decode cX3_ring 22 = .ok (.iconst 2, 1) := by decide +kernel
theorem dX3_ring_23 : decode cX3_ring 23 = .ok (.invokevirtual 147, 3) := by decide +kernel
theorem dX3_ring_26 : decode cX3_ring 26 = .ok (.aload_n 0, 1) := by decide +kernel
theorem dX3_ring_27 : decode cX3_ring 27 = .ok (.iconst 0, 1) := by decide +kernel
theorem dX3_ring_28 : decode cX3_ring 28 = .ok (.invokevirtual 156, 3) := by decide +kernel
theorem dX3_ring_31 : decode cX3_ring 31 = .ok (.iconst 1, 1) := by decide +kernel
theorem dX3_ring_32 : decode cX3_ring 32 = .ok (.istore_n 3, 1) := by decide +kernel
theorem dX3_ring_33 : decode cX3_ring 33 = .ok (.iload_n 3, 1) := by decide +kernel
theorem dX3_ring_34 : decode cX3_ring 34 = .ok (.sipush 300, 3) := by decide +kernel
theorem dX3_ring_37 : decode cX3_ring 37 = .ok (.if_icmp .gt 20, 3) := by decide +kernel
theorem dX3_ring_40 : decode cX3_ring 40 = .ok (.aload_n 0, 1) := by decide +kernel
theorem dX3_ring_41 : decode cX3_ring 41 = .ok (.iload_n 1, 1) := by decide +kernel
theorem dX3_ring_42 : decode cX3_ring 42 = .ok (.invokevirtual 110, 3) := by decide +kernel
theorem dX3_ring_45 : decode cX3_ring 45 = .ok (.pop, 1) := by decide +kernel
theorem dX3_ring_46 : decode cX3_ring 46 = .ok (.aload_n 0, 1) := by decide +kernel
theorem dX3_ring_47 : decode cX3_ring 47 = .ok (.iload_n 3, 1) := by decide +kernel
theorem dX3_ring_48 : decode cX3_ring 48 = .ok (.invokevirtual 156, 3) := by decide +kernel
theorem dX3_ring_51 : decode cX3_ring 51 = .ok (.iinc 3 1, 3) := by decide +kernel
theorem dX3_ring_54 : decode cX3_ring 54 = .ok (.goto (-21), 3) := by decide +kernel
theorem dX3_ring_57 : decode cX3_ring 57 = .ok (.aload_n 0, 1) := by decide +kernel
theorem dX3_ring_58 : decode cX3_ring 58 = .ok (.iconst 2, 1) := by decide +kernel
theorem dX3_ring_59 : decode cX3_ring 59 = .ok (.invokevirtual 153, 3) := by decide +kernel
theorem dX3_ring_62 : decode cX3_ring 62 = .ok (.iconst 1, 1) := by decide +kernel
theorem dX3_ring_63 : decode cX3_ring 63 = .ok (.istore_n 3, 1) := by decide +kernel
theorem dX3_ring_64 : decode cX3_ring 64 = .ok (.iload_n 3, 1) := by decide +kernel
theorem dX3_ring_65 : decode cX3_ring 65 = .ok (.sipush 300, 3) := by decide +kernel
theorem dX3_ring_68 : decode cX3_ring 68 = .ok (.if_icmp .gt 52, 3) := by decide +kernel
theorem dX3_ring_71 : decode cX3_ring 71 = .ok (.iconst 0, 1) := by decide +kernel
theorem dX3_ring_72 : decode cX3_ring 72 = .ok (.istore 4, 2) := by decide +kernel
theorem dX3_ring_74 : decode cX3_ring 74 = .ok (.iload 4, 2) := by decide +kernel
theorem dX3_ring_76 : decode cX3_ring 76 = .ok (.iload_n 3, 1) := by decide +kernel
theorem dX3_ring_77 : decode cX3_ring 77 = .ok (.iadd, 1) := by decide +kernel
theorem dX3_ring_78 : decode cX3_ring 78 = .ok (.sipush 300, 3) := by decide +kernel
theorem dX3_ring_81 : decode cX3_ring 81 = .ok (.if_icmp .gt 33, 3) := by decide +kernel
theorem dX3_ring_84 : decode cX3_ring 84 = .ok (.aload_n 0, 1) := by decide +kernel
theorem dX3_ring_85 : decode cX3_ring 85 = .ok (.iload 4, 2) := by decide +kernel
theorem dX3_ring_87 : decode cX3_ring 87 = .ok (.iload 4, 2) := by decide +kernel
theorem dX3_ring_89 : decode cX3_ring 89 = .ok (.iload_n 3, 1) := by decide +kernel
theorem dX3_ring_90 : decode cX3_ring 90 = .ok (.iadd, 1) := by decide +kernel
theorem dX3_ring_91 : decode cX3_ring 91 = .ok (.invokevirtual 159, 3) := by decide +kernel
theorem dX3_ring_94 : decode cX3_ring 94 = .ok (.ifCond .eq 14, 3) := by decide +kernel
theorem dX3_ring_97 : decode cX3_ring 97 = .ok (.iload_n 2, 1) := by decide +kernel
theorem dX3_ring_98 : decode cX3_ring 98 = .ok (.ifCond .ne 8, 3) := by decide +kernel
theorem dX3_ring_101 : decode cX3_ring 101 = .ok (.iload 4, 2) := by decide +kernel
theorem dX3_ring_103 : decode cX3_ring 103 = .ok (.goto 4, 3) := by decide +kernel
theorem dX3_ring_106 : decode cX3_ring 106 = .ok (.iload_n 3, 1) := by decide +kernel
theorem dX3_ring_107 : decode cX3_ring 107 = .ok (.ireturn, 1) := by decide +kernel
theorem dX3_ring_108 : decode cX3_ring 108 = .ok (.iinc 4 1, 3) := by decide +kernel
theorem dX3_ring_111 : decode cX3_ring 111 = .ok (.goto (-37), 3) := by decide +kernel
theorem dX3_ring_114 : decode cX3_ring 114 = .ok (.iinc 3 1, 3) := by decide +kernel
theorem dX3_ring_117 : decode cX3_ring 117 = .ok (.goto (-53), 3) := by decide +kernel
theorem dX3_ring_120 : decode cX3_ring 120 = .ok (.bipush (-6), 2) := by decide +kernel
theorem dX3_ring_122 : decode cX3_ring 122 = .ok (.ireturn, 1) := by decide +kernel
set_option maxRecDepth 20000 in
theorem ggX3_image_X3_in : GoodIn wsX3_image wsX3_in := goodIn_r _ [5] (by decide +kernel) (by decide +kernel)
set_option maxRecDepth 20000 in
theorem gX3_image_X3_in : GoodIn wsX3_image (va_wsS RX3 36 yX3_in wsX3_in) := goodIn_app (goodIn_of _ (by decide +kernel)) ggX3_image_X3_in
set_option maxRecDepth 20000 in
theorem ggX3_image_X3_save : GoodIn wsX3_image wsX3_save := goodIn_r _ [9, 10, 11, 12, 13, 14, 15, 16, 17, 18, 19, 20, 21, 22] (by decide +kernel) (by decide +kernel)
set_option maxRecDepth 20000 in
theorem gX3_image_X3_save : GoodIn wsX3_image (wsV RX3 147 RX3 yX3_save wsX3_save) := goodIn_app (goodIn_of _ (by decide +kernel)) ggX3_image_X3_save
theorem dX3_image_0 : decode cX3_image 0 = .ok (.iload_n 1, 1) := by decide +kernel
theorem dX3_image_1 : decode cX3_image 1 = .ok (.iconst 0, 1) := by decide +kernel
theorem dX3_image_2 : decode cX3_image 2 = .ok (.iconst 1, 1) := by decide +kernel
theorem dX3_image_3 : decode cX3_image 3 = .ok (.invokestatic 36, 3) := by decide +kernel
theorem dX3_image_6 : decode cX3_image 6 = .ok (.ifCond .ne 6, 3) := by decide +kernel
theorem dX3_image_9 : decode cX3_image 9 = .ok (.bipush (-2), 2) := by decide +kernel
theorem dX3_image_11 : decode cX3_image 11 = .ok (.ireturn, 1) := by decide +kernel
theorem dX3_image_12 : decode cX3_image 12 = .ok (.aload_n 0, 1) := by decide +kernel
theorem dX3_image_13 : decode cX3_image 13 = .ok (.iload_n 1, 1) := by decide +kernel
theorem dX3_image_14 : decode cX3_image 14 = .ok (.invokevirtual 147, 3) := by decide +kernel
theorem dX3_image_17 : decode cX3_image 17 = .ok (.aload_n 0, 1) := by decide +kernel
theorem dX3_image_18 : decode cX3_image 18 = .ok (.getfield 16, 3) := by decide +kernel
theorem dX3_image_21 : decode cX3_image 21 = .ok (.iload_n 1, 1) := by decide +kernel
theorem dX3_image_22 : decode cX3_image 22 = .ok (.iconst 1, 1) := by decide +kernel
theorem dX3_image_23 : decode cX3_image 23 = .ok (.bastore, 1) := by decide +kernel
theorem dX3_image_24 : decode cX3_image 24 = .ok (.iconst 1, 1) := by decide +kernel
theorem dX3_image_25 : decode cX3_image 25 = .ok (.ireturn, 1) := by decide +kernel
set_option maxRecDepth 20000 in
theorem ggX3_restore_X3_in : GoodIn wsX3_restore wsX3_in := goodIn_r _ [5] (by decide +kernel) (by decide +kernel)
set_option maxRecDepth 20000 in
theorem gX3_restore_X3_in : GoodIn wsX3_restore (va_wsS RX3 36 yX3_in wsX3_in) := goodIn_app (goodIn_of _ (by decide +kernel)) ggX3_restore_X3_in
set_option maxRecDepth 20000 in
theorem ggX3_restore_X3_load : GoodIn wsX3_restore wsX3_load := goodIn_r _ [9, 10, 11, 12, 13, 14, 15, 16, 17, 18, 19, 20, 21, 22] (by decide +kernel) (by decide +kernel)
set_option maxRecDepth 20000 in
theorem gX3_restore_X3_load : GoodIn wsX3_restore (wsV RX3 153 RX3 yX3_load wsX3_load) := goodIn_app (goodIn_of _ (by decide +kernel)) ggX3_restore_X3_load
theorem dX3_restore_0 : decode cX3_restore 0 = .ok (.iload_n 1, 1) := by decide +kernel
theorem dX3_restore_1 : decode cX3_restore 1 = .ok (.iconst 0, 1) := by decide +kernel
theorem dX3_restore_2 : decode cX3_restore 2 = .ok (.iconst 1, 1) := by decide +kernel
theorem dX3_restore_3 : decode cX3_restore 3 = .ok (.invokestatic 36, 3) := by decide +kernel
theorem dX3_restore_6 : decode cX3_restore 6 = .ok (.ifCond .ne 6, 3) := by decide +kernel
theorem dX3_restore_9 : decode cX3_restore 9 = .ok (.bipush (-2), 2) := by decide +kernel
theorem dX3_restore_11 : decode cX3_restore 11 = .ok (.ireturn, 1) := by decide +kernel
theorem dX3_restore_12 : decode cX3_restore 12 = .ok (.aload_n 0, 1) := by decide +kernel
theorem dX3_restore_13 : decode cX3_restore 13 = .ok (.getfield 16, 3) := by decide +kernel
theorem dX3_restore_16 : decode cX3_restore 16 = .ok (.iload_n 1, 1) := by decide +kernel
theorem dX3_restore_17 : decode cX3_restore 17 = .ok (.baload, 1) := by decide +kernel
theorem dX3_restore_18 : decode cX3_restore 18 = .ok (.ifCond .ne 6, 3) := by decide +kernel
theorem dX3_restore_21 : decode cX3_restore 21 = .ok (.bipush (-3), 2) := by decide +kernel
theorem dX3_restore_23 : decode cX3_restore 23 = .ok (.ireturn, 1) := by decide +kernel
theorem dX3_restore_24 : decode cX3_restore 24 = .ok (.aload_n 0, 1) := by decide +kernel
theorem dX3_restore_25 : decode cX3_restore 25 = .ok (.iload_n 1, 1) := by decide +kernel
theorem dX3_restore_26 : decode cX3_restore 26 = .ok (.invokevirtual 153, 3) := by decide +kernel
theorem dX3_restore_29 : decode cX3_restore 29 = .ok (.iconst 1, 1) := by decide +kernel
theorem dX3_restore_30 : decode cX3_restore 30 = .ok (.ireturn, 1) := by decide +kernel
theorem dX3_below_0 : decode cX3_below 0 = .ok (.iconst 0, 1) := by decide +kernel
theorem dX3_below_1 : decode cX3_below 1 = .ok (.istore_n 1, 1) := by decide +kernel
theorem dX3_below_2 : decode cX3_below 2 = .ok (.iconst 0, 1) := by decide +kernel
theorem dX3_below_3 : decode cX3_below 3 = .ok (.istore_n 2, 1) := by decide +kernel
theorem dX3_below_4 : decode cX3_below 4 = .ok (.iload_n 2, 1) := by decide +kernel
theorem dX3_below_5 : decode cX3_below 5 = .ok (.bipush 8, 2) := by decide +kernel
theorem dX3_below_7 : decode cX3_below 7 = .ok (.if_icmp .ge 29, 3) := by decide +kernel
theorem dX3_below_10 : decode cX3_below 10 = .ok (.iload_n 1, 1) := by decide +kernel
theorem dX3_below_11 : decode cX3_below 11 = .ok (.aload_n 0, 1) := by decide +kernel
theorem dX3_below_12 : decode cX3_below 12 = .ok (.getfield 7, 3) := by decide +kernel
theorem dX3_below_15 : decode cX3_below 15 = .ok (.bipush 8, 2) := by decide +kernel
theorem dX3_below_17 : decode cX3_below 17 = .ok (.iload_n 2, 1) := by decide +kernel
theorem dX3_below_18 : decode cX3_below 18 = .ok (.iadd, 1) := by decide +kernel
theorem dX3_below_19 : decode cX3_below 19 = .ok (.iaload, 1) := by decide +kernel
theorem dX3_below_20 : decode cX3_below 20 = .ok (.ifCond .ge 7, 3) := by decide +kernel
theorem dX3_below_23 : decode cX3_below 23 = .ok (.iconst 1, 1) := by decide +kernel
theorem dX3_below_24 : decode cX3_below 24 = .ok (.goto 4, 3) := by decide +kernel
theorem dX3_below_27 : decode cX3_below 27 = .ok (.iconst 0, 1) := by decide +kernel
theorem dX3_below_28 : decode cX3_below 28 = .ok (.iadd, 1) := by decide +kernel
theorem dX3_below_29 : decode cX3_below 29 = .ok (.istore_n 1, 1) := by decide +kernel
theorem dX3_below_30 : decode cX3_below 30 = .ok (.iinc 2 1, 3) := by decide +kernel
theorem dX3_below_33 : decode cX3_below 33 = .ok (.goto (-29), 3) := by decide +kernel
theorem dX3_below_36 : decode cX3_below 36 = .ok (.iload_n 1, 1) := by decide +kernel
theorem dX3_below_37 : decode cX3_below 37 = .ok (.ireturn, 1) := by decide +kernel
set_option maxRecDepth 20000 in
theorem ggX3_count_X3_edges : GoodIn wsX3_count wsX3_edges := goodIn_r _ [8, 2, 36, 37, 38, 39, 40, 41, 42, 43, 44, 45, 46] (by decide +kernel) (by decide +kernel)
set_option maxRecDepth 20000 in
theorem gX3_count_X3_edges : GoodIn wsX3_count (wsV RX3 52 RX3 yX3_edges wsX3_edges) := goodIn_app (goodIn_of _ (by decide +kernel)) ggX3_count_X3_edges
set_option maxRecDepth 20000 in
theorem ggX3_count_X3_sumOf : GoodIn wsX3_count wsX3_sumOf := goodIn_r _ [12, 2, 36, 37, 38, 39, 40, 41, 42, 43, 44, 45, 46] (by decide +kernel) (by decide +kernel)
set_option maxRecDepth 20000 in
theorem gX3_count_X3_sumOf : GoodIn wsX3_count (wsV RX3 130 RX3 yX3_sumOf wsX3_sumOf) := goodIn_app (goodIn_of _ (by decide +kernel)) ggX3_count_X3_sumOf
set_option maxRecDepth 20000 in
theorem ggX3_count_X3_measure : GoodIn wsX3_count wsX3_measure := goodIn_r _ [16, 17, 18, 19, 7, 20, 21, 22, 23, 24, 2, 25, 26, 27, 36, 37, 38, 39, 40, 41, 42, 43, 44, 45, 46] (by decide +kernel) (by decide +kernel)
set_option maxRecDepth 20000 in
theorem gX3_count_X3_measure : GoodIn wsX3_count (wsV RX3 80 RX3 yX3_measure wsX3_measure) := goodIn_app (goodIn_of _ (by decide +kernel)) ggX3_count_X3_measure
set_option maxRecDepth 20000 in
theorem ggX3_count_X3_colours : GoodIn wsX3_count wsX3_colours := goodIn_r _ [31, 2, 36, 37, 38, 39, 40, 41, 42, 43, 44, 45, 46] (by decide +kernel) (by decide +kernel)
set_option maxRecDepth 20000 in
theorem gX3_count_X3_colours : GoodIn wsX3_count (wsV RX3 92 RX3 yX3_colours wsX3_colours) := goodIn_app (goodIn_of _ (by decide +kernel)) ggX3_count_X3_colours
set_option maxRecDepth 20000 in
theorem ggX3_count_X3_below : GoodIn wsX3_count wsX3_below := goodIn_r _ [35, 2, 36, 37, 38, 39, 40, 41, 42, 43, 44, 45, 46] (by decide +kernel) (by decide +kernel)
set_option maxRecDepth 20000 in
theorem gX3_count_X3_below : GoodIn wsX3_count (wsV RX3 162 RX3 yX3_below wsX3_below) := goodIn_app (goodIn_of _ (by decide +kernel)) ggX3_count_X3_below
theorem dX3_count_0 : decode cX3_count 0 = .ok (.iload_n 1, 1) := by decide +kernel
theorem dX3_count_1 : decode cX3_count 1 = .ok (.tableswitch 122 0 7 #[47, 52, 57, 66, 77, 82, 87, 92], 47) := by decide +kernel
theorem dX3_count_48 : decode cX3_count 48 = .ok (.aload_n 0, 1) := by decide +kernel
theorem dX3_count_49 : decode cX3_count 49 = .ok (.invokevirtual 52, 3) := by decide +kernel
theorem dX3_count_52 : decode cX3_count 52 = .ok (.ireturn, 1) := by decide +kernel
theorem dX3_count_53 : decode cX3_count 53 = .ok (.aload_n 0, 1) := by decide +kernel
theorem dX3_count_54 : decode cX3_count 54 = .ok (.getfield 60, 3) := by decide +kernel
theorem dX3_count_57 : decode cX3_count 57 = .ok (.ireturn, 1) := by decide +kernel
theorem dX3_count_58 : decode cX3_count 58 = .ok (.aload_n 0, 1) := by decide +kernel
theorem dX3_count_59 : decode cX3_count 59 = .ok (.getfield 7, 3) := by decide +kernel
theorem dX3_count_62 : decode cX3_count 62 = .ok (.sipush 152, 3) := by decide +kernel
theorem dX3_count_65 : decode cX3_count 65 = .ok (.iaload, 1) := by decide +kernel
theorem dX3_count_66 : decode cX3_count 66 = .ok (.ireturn, 1) := by decide +kernel
theorem dX3_count_67 : decode cX3_count 67 = .ok (.aload_n 0, 1) := by decide +kernel
theorem dX3_count_68 : decode cX3_count 68 = .ok (.bipush 8, 2) := by decide +kernel
theorem dX3_count_70 : decode cX3_count 70 = .ok (.invokevirtual 130, 3) := by decide +kernel
theorem dX3_count_73 : decode cX3_count 73 = .ok (.sipush 10000, 3) := by decide +kernel
theorem dX3_count_76 : decode cX3_count 76 = .ok (.iadd, 1) := by decide +kernel
theorem dX3_count_77 : decode cX3_count 77 = .ok (.ireturn, 1) := by decide +kernel
theorem dX3_count_78 : decode cX3_count 78 = .ok (.aload_n 0, 1) := by decide +kernel
theorem dX3_count_79 : decode cX3_count 79 = .ok (.invokevirtual 80, 3) := by decide +kernel
theorem dX3_count_82 : decode cX3_count 82 = .ok (.ireturn, 1) := by decide +kernel
theorem dX3_count_83 : decode cX3_count 83 = .ok (.aload_n 0, 1) := by decide +kernel
theorem dX3_count_84 : decode cX3_count 84 = .ok (.invokevirtual 92, 3) := by decide +kernel
theorem dX3_count_87 : decode cX3_count 87 = .ok (.ireturn, 1) := by decide +kernel
theorem dX3_count_88 : decode cX3_count 88 = .ok (.aload_n 0, 1) := by decide +kernel
theorem dX3_count_89 : decode cX3_count 89 = .ok (.invokevirtual 162, 3) := by decide +kernel
theorem dX3_count_92 : decode cX3_count 92 = .ok (.ireturn, 1) := by decide +kernel
theorem dX3_count_93 : decode cX3_count 93 = .ok (.aload_n 0, 1) := by decide +kernel
theorem dX3_count_94 : decode cX3_count 94 = .ok (.getfield 16, 3) := by decide +kernel
theorem dX3_count_97 : decode cX3_count 97 = .ok (.iconst 0, 1) := by decide +kernel
theorem dX3_count_98 : decode cX3_count 98 = .ok (.baload, 1) := by decide +kernel
theorem dX3_count_99 : decode cX3_count 99 = .ok (.ifCond .eq 7, 3) := by decide +kernel
theorem dX3_count_102 : decode cX3_count 102 = .ok (.iconst 1, 1) := by decide +kernel
theorem dX3_count_103 : decode cX3_count 103 = .ok (.goto 4, 3) := by decide +kernel
theorem dX3_count_106 : decode cX3_count 106 = .ok (.iconst 0, 1) := by decide +kernel
theorem dX3_count_107 : decode cX3_count 107 = .ok (.aload_n 0, 1) := by decide +kernel
theorem dX3_count_108 : decode cX3_count 108 = .ok (.getfield 16, 3) := by decide +kernel
theorem dX3_count_111 : decode cX3_count 111 = .ok (.iconst 1, 1) := by decide +kernel
theorem dX3_count_112 : decode cX3_count 112 = .ok (.baload, 1) := by decide +kernel
theorem dX3_count_113 : decode cX3_count 113 = .ok (.ifCond .eq 7, 3) := by decide +kernel
theorem dX3_count_116 : decode cX3_count 116 = .ok (.iconst 2, 1) := by decide +kernel
theorem dX3_count_117 : decode cX3_count 117 = .ok (.goto 4, 3) := by decide +kernel
theorem dX3_count_120 : decode cX3_count 120 = .ok (.iconst 0, 1) := by decide +kernel
theorem dX3_count_121 : decode cX3_count 121 = .ok (.iadd, 1) := by decide +kernel
theorem dX3_count_122 : decode cX3_count 122 = .ok (.ireturn, 1) := by decide +kernel
theorem dX3_count_123 : decode cX3_count 123 = .ok (.bipush (-2), 2) := by decide +kernel
theorem dX3_count_125 : decode cX3_count 125 = .ok (.ireturn, 1) := by decide +kernel
