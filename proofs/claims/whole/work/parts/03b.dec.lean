theorem dX8_init_0 : decode cX8_init 0 = .ok (.aload_n 0, 1) := by decide +kernel
theorem dX8_init_1 : decode cX8_init 1 = .ok (.invokespecial 1, 3) := by decide +kernel
theorem dX8_init_4 : decode cX8_init 4 = .ok (.aload_n 0, 1) := by decide +kernel
theorem dX8_init_5 : decode cX8_init 5 = .ok (.sipush 900, 3) := by decide +kernel
theorem dX8_init_8 : decode cX8_init 8 = .ok (.newarray .boolean, 2) := by decide +kernel
theorem dX8_init_10 : decode cX8_init 10 = .ok (.putfield 7, 3) := by decide +kernel
theorem dX8_init_13 : decode cX8_init 13 = .ok (.aload_n 0, 1) := by decide +kernel
theorem dX8_init_14 : decode cX8_init 14 = .ok (.sipush 900, 3) := by decide +kernel
theorem dX8_init_17 : decode cX8_init 17 = .ok (.newarray .boolean, 2) := by decide +kernel
theorem dX8_init_19 : decode cX8_init 19 = .ok (.putfield 13, 3) := by decide +kernel
theorem dX8_init_22 : decode cX8_init 22 = .ok (.aload_n 0, 1) := by decide +kernel
theorem dX8_init_23 : decode cX8_init 23 = .ok (.bipush 30, 2) := by decide +kernel
theorem dX8_init_25 : decode cX8_init 25 = .ok (.newarray .int, 2) := by decide +kernel
theorem dX8_init_27 : decode cX8_init 27 = .ok (.putfield 16, 3) := by decide +kernel
theorem dX8_init_30 : decode cX8_init 30 = .ok (.aload_n 0, 1) := by decide +kernel
theorem dX8_init_31 : decode cX8_init 31 = .ok (.bipush 30, 2) := by decide +kernel
theorem dX8_init_33 : decode cX8_init 33 = .ok (.newarray .int, 2) := by decide +kernel
theorem dX8_init_35 : decode cX8_init 35 = .ok (.putfield 20, 3) := by decide +kernel
theorem dX8_init_38 : decode cX8_init 38 = .ok (.aload_n 0, 1) := by decide +kernel
theorem dX8_init_39 : decode cX8_init 39 = .ok (.bipush 30, 2) := by decide +kernel
theorem dX8_init_41 : decode cX8_init 41 = .ok (.newarray .int, 2) := by decide +kernel
theorem dX8_init_43 : decode cX8_init 43 = .ok (.putfield 23, 3) := by decide +kernel
theorem dX8_init_46 : decode cX8_init 46 = .ok (.aload_n 0, 1) := by decide +kernel
theorem dX8_init_47 : decode cX8_init 47 = .ok (.bipush 31, 2) := by decide +kernel
theorem dX8_init_49 : decode cX8_init 49 = .ok (.newarray .int, 2) := by decide +kernel
theorem dX8_init_51 : decode cX8_init 51 = .ok (.putfield 26, 3) := by decide +kernel
theorem dX8_init_54 : decode cX8_init 54 = .ok (.aload_n 0, 1) := by decide +kernel
theorem dX8_init_55 : decode cX8_init 55 = .ok (.bipush 31, 2) := by decide +kernel
theorem dX8_init_57 : decode cX8_init 57 = .ok (.newarray .int, 2) := by decide +kernel
theorem dX8_init_59 : decode cX8_init 59 = .ok (.putfield 29, 3) := by decide +kernel
theorem dX8_init_62 : decode cX8_init 62 = .ok (.aload_n 0, 1) := by decide +kernel
theorem dX8_init_63 : decode cX8_init 63 = .ok (.bipush 31, 2) := by decide +kernel
theorem dX8_init_65 : decode cX8_init 65 = .ok (.newarray .int, 2) := by decide +kernel
theorem dX8_init_67 : decode cX8_init 67 = .ok (.putfield 32, 3) := by decide +kernel
theorem dX8_init_70 : decode cX8_init 70 = .ok (.aload_n 0, 1) := by decide +kernel
theorem dX8_init_71 : decode cX8_init 71 = .ok (.sipush 6000, 3) := by decide +kernel
theorem dX8_init_74 : decode cX8_init 74 = .ok (.newarray .int, 2) := by decide +kernel
theorem dX8_init_76 : decode cX8_init 76 = .ok (.putfield 35, 3) := by decide +kernel
theorem dX8_init_79 : decode cX8_init 79 = .ok (.aload_n 0, 1) := by decide +kernel
theorem dX8_init_80 : decode cX8_init 80 = .ok (.sipush 6000, 3) := by decide +kernel
theorem dX8_init_83 : decode cX8_init 83 = .ok (.newarray .int, 2) := by decide +kernel
theorem dX8_init_85 : decode cX8_init 85 = .ok (.putfield 38, 3) := by decide +kernel
theorem dX8_init_88 : decode cX8_init 88 = .ok (.aload_n 0, 1) := by decide +kernel
theorem dX8_init_89 : decode cX8_init 89 = .ok (.sipush 6000, 3) := by decide +kernel
theorem dX8_init_92 : decode cX8_init 92 = .ok (.newarray .int, 2) := by decide +kernel
theorem dX8_init_94 : decode cX8_init 94 = .ok (.putfield 41, 3) := by decide +kernel
theorem dX8_init_97 : decode cX8_init 97 = .ok (.aload_n 0, 1) := by decide +kernel
theorem dX8_init_98 : decode cX8_init 98 = .ok (.iconst 5, 1) := by decide +kernel
theorem dX8_init_99 : decode cX8_init 99 = .ok (.newarray .int, 2) := by decide +kernel
theorem dX8_init_101 : decode cX8_init 101 = .ok (.putfield 44, 3) := by decide +kernel
theorem dX8_init_104 : decode cX8_init 104 = .ok (.aload_n 0, 1) := by decide +kernel
theorem dX8_init_105 : decode cX8_init 105 = .ok (.bipush 30, 2) := by decide +kernel
theorem dX8_init_107 : decode cX8_init 107 = .ok (.newarray .boolean, 2) := by decide +kernel
theorem dX8_init_109 : decode cX8_init 109 = .ok (.putfield 47, 3) := by decide +kernel
theorem dX8_init_112 : decode cX8_init 112 = .ok (.iconst 0, 1) := by decide +kernel
theorem dX8_init_113 : decode cX8_init 113 = .ok (.istore_n 1, 1) := by decide +kernel
theorem dX8_init_114 : decode cX8_init 114 = .ok (.iload_n 1, 1) := by decide +kernel
theorem dX8_init_115 : decode cX8_init 115 = .ok (.bipush 30, 2) := by decide +kernel
theorem dX8_init_117 : decode cX8_init 117 = .ok (.if_icmp .ge 16, 3) := by decide +kernel
theorem dX8_init_120 : decode cX8_init 120 = .ok (.aload_n 0, 1) := by decide +kernel
theorem dX8_init_121 : decode cX8_init 121 = .ok (.getfield 23, 3) := by decide +kernel
theorem dX8_init_124 : decode cX8_init 124 = .ok (.iload_n 1, 1) := by decide +kernel
theorem dX8_init_125 : decode cX8_init 125 = .ok (.iconst (-1), 1) := by decide +kernel
theorem dX8_init_126 : decode cX8_init 126 = .ok (.iastore, 1) := by decide +kernel
theorem dX8_init_127 : decode cX8_init 127 = .ok (.iinc 1 1, 3) := by decide +kernel
theorem dX8_init_130 : decode cX8_init 130 = .ok (.goto (-16), 3) := by decide +kernel
theorem dX8_init_133 : decode cX8_init 133 = .ok (.return_, 1) := by decide +kernel
theorem dX8_isVertex_0 : decode cX8_isVertex 0 = .ok (.iload_n 1, 1) := by decide +kernel
theorem dX8_isVertex_1 : decode cX8_isVertex 1 = .ok (.ifCond .lt 15, 3) := by decide +kernel
theorem dX8_isVertex_4 : decode cX8_isVertex 4 = .ok (.iload_n 1, 1) := by decide +kernel
theorem dX8_isVertex_5 : decode cX8_isVertex 5 = .ok (.aload_n 0, 1) := by decide +kernel
theorem dX8_isVertex_6 : decode cX8_isVertex 6 = .ok (.getfield 50, 3) := by decide +kernel
theorem dX8_isVertex_9 : decode cX8_isVertex 9 = .ok (.if_icmp .ge 7, 3) := by decide +kernel
theorem dX8_isVertex_12 : decode cX8_isVertex 12 = .ok (.iconst 1, 1) := by decide +kernel
theorem dX8_isVertex_13 : decode cX8_isVertex 13 = .ok (.goto 4, 3) := by decide +kernel
theorem dX8_isVertex_16 : decode cX8_isVertex 16 = .ok (.iconst 0, 1) := by decide +kernel
theorem dX8_isVertex_17 : decode cX8_isVertex 17 = .ok (.ireturn, 1) := by decide +kernel
theorem dX8_isNear_0 : decode cX8_isNear 0 = .ok (.aload_n 0, 1) := by decide +kernel
theorem dX8_isNear_1 : decode cX8_isNear 1 = .ok (.getfield 7, 3) := by decide +kernel
theorem dX8_isNear_4 : decode cX8_isNear 4 = .ok (.bipush 30, 2) := by decide +kernel
theorem dX8_isNear_6 : decode cX8_isNear 6 = .ok (.iload_n 1, 1) := by decide +kernel
theorem dX8_isNear_7 : decode cX8_isNear 7 = .ok (.imul, 1) := by decide +kernel
theorem dX8_isNear_8 : decode cX8_isNear 8 = .ok (.iload_n 2, 1) := by decide +kernel
theorem dX8_isNear_9 : decode cX8_isNear 9 = .ok (.iadd, 1) := by decide +kernel
theorem dX8_isNear_10 : decode cX8_isNear 10 = .ok (.baload, 1) := by decide +kernel
theorem dX8_isNear_11 : decode cX8_isNear 11 = .ok (.ireturn, 1) := by decide +kernel
theorem dX8_join_0 : decode cX8_join 0 = .ok (.aload_n 0, 1) := by decide +kernel
theorem dX8_join_1 : decode cX8_join 1 = .ok (.getfield 7, 3) := by decide +kernel
theorem dX8_join_4 : decode cX8_join 4 = .ok (.bipush 30, 2) := by decide +kernel
theorem dX8_join_6 : decode cX8_join 6 = .ok (.iload_n 1, 1) := by decide +kernel
theorem dX8_join_7 : decode cX8_join 7 = .ok (.imul, 1) := by decide +kernel
theorem dX8_join_8 : decode cX8_join 8 = .ok (.iload_n 2, 1) := by decide +kernel
theorem dX8_join_9 : decode cX8_join 9 = .ok (.iadd, 1) := by decide +kernel
theorem dX8_join_10 : decode cX8_join 10 = .ok (.iload_n 3, 1) := by decide +kernel
theorem dX8_join_11 : decode cX8_join 11 = .ok (.bastore, 1) := by decide +kernel
theorem dX8_join_12 : decode cX8_join 12 = .ok (.aload_n 0, 1) := by decide +kernel
theorem dX8_join_13 : decode cX8_join 13 = .ok (.getfield 7, 3) := by decide +kernel
theorem dX8_join_16 : decode cX8_join 16 = .ok (.bipush 30, 2) := by decide +kernel
theorem dX8_join_18 : decode cX8_join 18 = .ok (.iload_n 2, 1) := by decide +kernel
theorem dX8_join_19 : decode cX8_join 19 = .ok (.imul, 1) := by decide +kernel
theorem dX8_join_20 : decode cX8_join 20 = .ok (.iload_n 1, 1) := by decide +kernel
theorem dX8_join_21 : decode cX8_join 21 = .ok (.iadd, 1) := by decide +kernel
theorem dX8_join_22 : decode cX8_join 22 = .ok (.iload_n 3, 1) := by decide +kernel
theorem dX8_join_23 : decode cX8_join 23 = .ok (.bastore, 1) := by decide +kernel
theorem dX8_join_24 : decode cX8_join 24 = .ok (.return_, 1) := by decide +kernel
theorem dX8_graph_0 : decode cX8_graph 0 = .ok (.iload_n 1, 1) := by decide +kernel
theorem dX8_graph_1 : decode cX8_graph 1 = .ok (.ifCond .lt 9, 3) := by decide +kernel
theorem dX8_graph_4 : decode cX8_graph 4 = .ok (.iload_n 1, 1) := by decide +kernel
theorem dX8_graph_5 : decode cX8_graph 5 = .ok (.bipush 30, 2) := by decide +kernel
theorem dX8_graph_7 : decode cX8_graph 7 = .ok (.if_icmp .le 5, 3) := by decide +kernel
theorem dX8_graph_10 : decode cX8_graph 10 = .ok (.iconst (-1), 1) := by decide +kernel
theorem dX8_graph_11 : decode cX8_graph 11 = .ok (.ireturn, 1) := by decide +kernel
theorem dX8_graph_12 : decode cX8_graph 12 = .ok (.aload_n 0, 1) := by decide +kernel
theorem dX8_graph_13 : decode cX8_graph 13 = .ok (.iload_n 1, 1) := by decide +kernel
theorem dX8_graph_14 : decode cX8_graph 14 = .ok (.putfield 50, 3) := by decide +kernel
theorem dX8_graph_17 : decode cX8_graph 17 = .ok (.iconst 0, 1) := by decide +kernel
theorem dX8_graph_18 : decode cX8_graph 18 = .ok (.istore_n 2, 1) := by decide +kernel
theorem dX8_graph_19 : decode cX8_graph 19 = .ok (.iload_n 2, 1) := by decide +kernel
theorem dX8_graph_20 : decode cX8_graph 20 = .ok (.sipush 900, 3) := by decide +kernel
theorem dX8_graph_23 : decode cX8_graph 23 = .ok (.if_icmp .ge 16, 3) := by decide +kernel
theorem dX8_graph_26 : decode cX8_graph 26 = .ok (.aload_n 0, 1) := by decide +kernel
theorem dX8_graph_27 : decode cX8_graph 27 = .ok (.getfield 7, 3) := by decide +kernel
theorem dX8_graph_30 : decode cX8_graph 30 = .ok (.iload_n 2, 1) := by decide +kernel
theorem dX8_graph_31 : decode cX8_graph 31 = .ok (.iconst 0, 1) := by decide +kernel
theorem dX8_graph_32 : decode cX8_graph 32 = .ok (.bastore, 1) := by decide +kernel
theorem dX8_graph_33 : decode cX8_graph 33 = .ok (.iinc 2 1, 3) := by decide +kernel
theorem dX8_graph_36 : decode cX8_graph 36 = .ok (.goto (-17), 3) := by decide +kernel
theorem dX8_graph_39 : decode cX8_graph 39 = .ok (.aload_n 0, 1) := by decide +kernel
theorem dX8_graph_40 : decode cX8_graph 40 = .ok (.iconst 0, 1) := by decide +kernel
theorem dX8_graph_41 : decode cX8_graph 41 = .ok (.putfield 54, 3) := by decide +kernel
theorem dX8_graph_44 : decode cX8_graph 44 = .ok (.aload_n 0, 1) := by decide +kernel
theorem dX8_graph_45 : decode cX8_graph 45 = .ok (.getfield 50, 3) := by decide +kernel
theorem dX8_graph_48 : decode cX8_graph 48 = .ok (.ireturn, 1) := by decide +kernel
theorem dX8_edge_0 : decode cX8_edge 0 = .ok (.aload_n 0, 1) := by decide +kernel
theorem dX8_edge_1 : decode cX8_edge 1 = .ok (.iload_n 1, 1) := by decide +kernel
theorem dX8_edge_2 : decode cX8_edge 2 = .ok (.invokevirtual 58, 3) := by decide +kernel
theorem dX8_edge_5 : decode cX8_edge 5 = .ok (.ifCond .eq 16, 3) := by decide +kernel
theorem dX8_edge_8 : decode cX8_edge 8 = .ok (.aload_n 0, 1) := by decide +kernel
theorem dX8_edge_9 : decode cX8_edge 9 = .ok (.iload_n 2, 1) := by decide +kernel
theorem dX8_edge_10 : decode cX8_edge 10 = .ok (.invokevirtual 58, 3) := by decide +kernel
theorem dX8_edge_13 : decode cX8_edge 13 = .ok (.ifCond .eq 8, 3) := by decide +kernel
theorem dX8_edge_16 : decode cX8_edge 16 = .ok (.iload_n 1, 1) := by decide +kernel
theorem dX8_edge_17 : decode cX8_edge 17 = .ok (.iload_n 2, 1) := by decide +kernel
theorem dX8_edge_18 : decode cX8_edge 18 = .ok (.if_icmp .ne 5, 3) := by decide +kernel
theorem dX8_edge_21 : decode cX8_edge 21 = .ok (.iconst (-1), 1) := by decide +kernel
theorem dX8_edge_22 : decode cX8_edge 22 = .ok (.ireturn, 1) := by decide +kernel
theorem dX8_edge_23 : decode cX8_edge 23 = .ok (.aload_n 0, 1) := by decide +kernel
theorem dX8_edge_24 : decode cX8_edge 24 = .ok (.iload_n 1, 1) := by decide +kernel
theorem dX8_edge_25 : decode cX8_edge 25 = .ok (.iload_n 2, 1) := by decide +kernel
theorem dX8_edge_26 : decode cX8_edge 26 = .ok (.invokevirtual 62, 3) := by decide +kernel
theorem dX8_edge_29 : decode cX8_edge 29 = .ok (.iload_n 3, 1) := by decide +kernel
theorem dX8_edge_30 : decode cX8_edge 30 = .ok (.if_icmp .ne 5, 3) := by decide +kernel
theorem dX8_edge_33 : decode cX8_edge 33 = .ok (.iconst 0, 1) := by decide +kernel
theorem dX8_edge_34 : decode cX8_edge 34 = .ok (.ireturn, 1) := by decide +kernel
theorem dX8_edge_35 : decode cX8_edge 35 = .ok (.aload_n 0, 1) := by decide +kernel
theorem dX8_edge_36 : decode cX8_edge 36 = .ok (.iload_n 1, 1) := by decide +kernel
theorem dX8_edge_37 : decode cX8_edge 37 = .ok (.iload_n 2, 1) := by decide +kernel
theorem dX8_edge_38 : decode cX8_edge 38 = .ok (.iload_n 3, 1) := by decide +kernel
theorem dX8_edge_39 : decode cX8_edge 39 = .ok (.invokevirtual 66, 3) := by decide +kernel
theorem dX8_edge_42 : decode cX8_edge 42 = .ok (.aload_n 0, 1) := by decide +kernel
theorem dX8_edge_43 : decode cX8_edge 43 = .ok (.iconst 0, 1) := by decide +kernel
theorem dX8_edge_44 : decode cX8_edge 44 = .ok (.putfield 54, 3) := by decide +kernel
theorem dX8_edge_47 : decode cX8_edge 47 = .ok (.iconst 1, 1) := by decide +kernel
theorem dX8_edge_48 : decode cX8_edge 48 = .ok (.ireturn, 1) := by decide +kernel
theorem dX8_edges_0 : decode cX8_edges 0 = .ok (.iconst 0, 1) := by decide +kernel
theorem dX8_edges_1 : decode cX8_edges 1 = .ok (.istore_n 1, 1) := by decide +kernel
theorem dX8_edges_2 : decode cX8_edges 2 = .ok (.iconst 0, 1) := by decide +kernel
theorem dX8_edges_3 : decode cX8_edges 3 = .ok (.istore_n 2, 1) := by decide +kernel
theorem dX8_edges_4 : decode cX8_edges 4 = .ok (.iload_n 2, 1) := by decide +kernel
theorem dX8_edges_5 : decode cX8_edges 5 = .ok (.aload_n 0, 1) := by decide +kernel
theorem dX8_edges_6 : decode cX8_edges 6 = .ok (.getfield 50, 3) := by decide +kernel
theorem dX8_edges_9 : decode cX8_edges 9 = .ok (.if_icmp .ge 17, 3) := by decide +kernel
theorem dX8_edges_12 : decode cX8_edges 12 = .ok (.iload_n 1, 1) := by decide +kernel
theorem dX8_edges_13 : decode cX8_edges 13 = .ok (.aload_n 0, 1) := by decide +kernel
theorem dX8_edges_14 : decode cX8_edges 14 = .ok (.iload_n 2, 1) := by decide +kernel
theorem dX8_edges_15 : decode cX8_edges 15 = .ok (.invokevirtual 70, 3) := by decide +kernel
theorem dX8_edges_18 : decode cX8_edges 18 = .ok (.iadd, 1) := by decide +kernel
theorem dX8_edges_19 : decode cX8_edges 19 = .ok (.istore_n 1, 1) := by decide +kernel
theorem dX8_edges_20 : decode cX8_edges 20 = .ok (.iinc 2 1, 3) := by decide +kernel
theorem dX8_edges_23 : decode cX8_edges 23 = .ok (.goto (-19), 3) := by decide +kernel
theorem dX8_edges_26 : decode cX8_edges 26 = .ok (.iload_n 1, 1) := by decide +kernel
theorem dX8_edges_27 : decode cX8_edges 27 = .ok (.iconst 2, 1) := by decide +kernel
theorem dX8_edges_28 : decode cX8_edges 28 = .ok (.idiv, 1) := by decide +kernel
theorem dX8_edges_29 : decode cX8_edges 29 = .ok (.ireturn, 1) := by decide +kernel
theorem dX8_draw_0 : decode cX8_draw 0 = .ok (.iload_n 2, 1) := by decide +kernel
theorem dX8_draw_1 : decode cX8_draw 1 = .ok (.ifCond .lt 9, 3) := by decide +kernel
theorem dX8_draw_4 : decode cX8_draw 4 = .ok (.iload_n 2, 1) := by decide +kernel
theorem dX8_draw_5 : decode cX8_draw 5 = .ok (.bipush 100, 2) := by decide +kernel
theorem dX8_draw_7 : decode cX8_draw 7 = .ok (.if_icmp .le 5, 3) := by decide +kernel
theorem dX8_draw_10 : decode cX8_draw 10 = .ok (.iconst (-1), 1) := by decide +kernel
theorem dX8_draw_11 : decode cX8_draw 11 = .ok (.ireturn, 1) := by decide +kernel
theorem dX8_draw_12 : decode cX8_draw 12 = .ok (.iload_n 1, 1) := by decide +kernel
theorem dX8_draw_13 : decode cX8_draw 13 = .ok (.istore_n 3, 1) := by decide +kernel
theorem dX8_draw_14 : decode cX8_draw 14 = .ok (.iconst 0, 1) := by decide +kernel
theorem dX8_draw_15 : decode cX8_draw 15 = .ok (.istore 4, 2) := by decide +kernel
theorem dX8_draw_17 : decode cX8_draw 17 = .ok (.iload 4, 2) := by decide +kernel
theorem dX8_draw_19 : decode cX8_draw 19 = .ok (.aload_n 0, 1) := by decide +kernel
theorem dX8_draw_20 : decode cX8_draw 20 = .ok (.getfield 50, 3) := by decide +kernel
theorem dX8_draw_23 : decode cX8_draw 23 = .ok (.if_icmp .ge 66, 3) := by decide +kernel
theorem dX8_draw_26 : decode cX8_draw 26 = .ok (.iload 4, 2) := by decide +kernel
theorem dX8_draw_28 : decode cX8_draw 28 = .ok (.iconst 1, 1) := by decide +kernel
theorem dX8_draw_29 : decode cX8_draw 29 = .ok (.iadd, 1) := by decide +kernel
theorem dX8_draw_30 : decode cX8_draw 30 = .ok (.istore 5, 2) := by decide +kernel
theorem dX8_draw_32 : decode cX8_draw 32 = .ok (.iload 5, 2) := by decide +kernel
theorem dX8_draw_34 : decode cX8_draw 34 = .ok (.aload_n 0, 1) := by decide +kernel
theorem dX8_draw_35 : decode cX8_draw 35 = .ok (.getfield 50, 3) := by decide +kernel
theorem dX8_draw_38 : decode cX8_draw 38 = .ok (.if_icmp .ge 45, 3) := by decide +kernel
theorem dX8_draw_41 : decode cX8_draw 41 = .ok (.ldc 74, 2) := by decide +kernel
theorem dX8_draw_43 : decode cX8_draw 43 = .ok (.iload_n 3, 1) := by decide +kernel
theorem dX8_draw_44 : decode cX8_draw 44 = .ok (.imul, 1) := by decide +kernel
theorem dX8_draw_45 : decode cX8_draw 45 = .ok (.sipush 12345, 3) := by decide +kernel
theorem dX8_draw_48 : decode cX8_draw 48 = .ok (.iadd, 1) := by decide +kernel
theorem dX8_draw_49 : decode cX8_draw 49 = .ok (.istore_n 3, 1) := by decide +kernel
theorem dX8_draw_50 : decode cX8_draw 50 = .ok (.aload_n 0, 1) := by decide +kernel
theorem dX8_draw_51 : decode cX8_draw 51 = .ok (.iload 4, 2) := by decide +kernel
theorem dX8_draw_53 : decode cX8_draw 53 = .ok (.iload 5, 2) := by decide +kernel
theorem dX8_draw_55 : decode cX8_draw 55 = .ok (.iload_n 3, 1) := by decide +kernel
theorem dX8_draw_56 : decode cX8_draw 56 = .ok (.bipush 16, 2) := by decide +kernel
theorem dX8_draw_58 : decode cX8_draw 58 = .ok (.ishr, 1) := by decide +kernel
theorem dX8_draw_59 : decode cX8_draw 59 = .ok (.ldc 75, 2) := by decide +kernel
theorem dX8_draw_61 : decode cX8_draw 61 = .ok (.iand, 1) := by decide +kernel
theorem dX8_draw_62 : decode cX8_draw 62 = .ok (.bipush 100, 2) := by decide +kernel
theorem dX8_draw_64 : decode cX8_draw 64 = .ok (.irem, 1) := by decide +kernel
theorem dX8_draw_65 : decode cX8_draw 65 = .ok (.iload_n 2, 1) := by decide +kernel
theorem dX8_draw_66 : decode cX8_draw 66 = .ok (.if_icmp .ge 7, 3) := by decide +kernel
theorem dX8_draw_69 : decode cX8_draw 69 = .ok (.iconst 1, 1) := by decide +kernel
theorem dX8_draw_70 : decode cX8_draw 70 = .ok (.goto 4, 3) := by decide +kernel
theorem dX8_draw_73 : decode cX8_draw 73 = .ok (.iconst 0, 1) := by decide +kernel
theorem dX8_draw_74 : decode cX8_draw 74 = .ok (.invokevirtual 66, 3) := by decide +kernel
theorem dX8_draw_77 : decode cX8_draw 77 = .ok (.iinc 5 1, 3) := by decide +kernel
theorem dX8_draw_80 : decode cX8_draw 80 = .ok (.goto (-48), 3) := by decide +kernel
theorem dX8_draw_83 : decode cX8_draw 83 = .ok (.iinc 4 1, 3) := by decide +kernel
theorem dX8_draw_86 : decode cX8_draw 86 = .ok (.goto (-69), 3) := by decide +kernel
theorem dX8_draw_89 : decode cX8_draw 89 = .ok (.aload_n 0, 1) := by decide +kernel
theorem dX8_draw_90 : decode cX8_draw 90 = .ok (.iconst 0, 1) := by decide +kernel
theorem dX8_draw_91 : decode cX8_draw 91 = .ok (.putfield 54, 3) := by decide +kernel
theorem dX8_draw_94 : decode cX8_draw 94 = .ok (.aload_n 0, 1) := by decide +kernel
theorem dX8_draw_95 : decode cX8_draw 95 = .ok (.invokevirtual 76, 3) := by decide +kernel
theorem dX8_draw_98 : decode cX8_draw 98 = .ok (.ireturn, 1) := by decide +kernel
theorem dX8_common_0 : decode cX8_common 0 = .ok (.iload_n 0, 1) := by decide +kernel
theorem dX8_common_1 : decode cX8_common 1 = .ok (.istore_n 2, 1) := by decide +kernel
theorem dX8_common_2 : decode cX8_common 2 = .ok (.iload_n 1, 1) := by decide +kernel
theorem dX8_common_3 : decode cX8_common 3 = .ok (.istore_n 3, 1) := by decide +kernel
theorem dX8_common_4 : decode cX8_common 4 = .ok (.iload_n 3, 1) := by decide +kernel
theorem dX8_common_5 : decode cX8_common 5 = .ok (.ifCond .eq 16, 3) := by decide +kernel
theorem dX8_common_8 : decode cX8_common 8 = .ok (.iload_n 2, 1) := by decide +kernel
theorem dX8_common_9 : decode cX8_common 9 = .ok (.iload_n 3, 1) := by decide +kernel
theorem dX8_common_10 : decode cX8_common 10 = .ok (.irem, 1) := by decide +kernel
theorem dX8_common_11 : decode cX8_common 11 = .ok (.istore 4, 2) := by decide +kernel
theorem dX8_common_13 : decode cX8_common 13 = .ok (.iload_n 3, 1) := by decide +kernel
theorem dX8_common_14 : decode cX8_common 14 = .ok (.istore_n 2, 1) := by decide +kernel
theorem dX8_common_15 : decode cX8_common 15 = .ok (.iload 4, 2) := by decide +kernel
theorem dX8_common_17 : decode cX8_common 17 = .ok (.istore_n 3, 1) := by decide +kernel
theorem dX8_common_18 : decode cX8_common 18 = .ok (.goto (-14), 3) := by decide +kernel
theorem dX8_common_21 : decode cX8_common 21 = .ok (.iload_n 2, 1) := by decide +kernel
theorem dX8_common_22 : decode cX8_common 22 = .ok (.ireturn, 1) := by decide +kernel
theorem dX8_turn_0 : decode cX8_turn 0 = .ok (.aload_n 0, 1) := by decide +kernel
theorem dX8_turn_1 : decode cX8_turn 1 = .ok (.getfield 50, 3) := by decide +kernel
theorem dX8_turn_4 : decode cX8_turn 4 = .ok (.ifCond .eq 38, 3) := by decide +kernel
theorem dX8_turn_7 : decode cX8_turn 7 = .ok (.iload_n 2, 1) := by decide +kernel
theorem dX8_turn_8 : decode cX8_turn 8 = .ok (.ifCond .lt 34, 3) := by decide +kernel
theorem dX8_turn_11 : decode cX8_turn 11 = .ok (.iload_n 2, 1) := by decide +kernel
theorem dX8_turn_12 : decode cX8_turn 12 = .ok (.aload_n 0, 1) := by decide +kernel
theorem dX8_turn_13 : decode cX8_turn 13 = .ok (.getfield 50, 3) := by decide +kernel
theorem dX8_turn_16 : decode cX8_turn 16 = .ok (.if_icmp .ge 26, 3) := by decide +kernel
theorem dX8_turn_19 : decode cX8_turn 19 = .ok (.iload_n 1, 1) := by decide +kernel
theorem dX8_turn_20 : decode cX8_turn 20 = .ok (.iconst 1, 1) := by decide +kernel
theorem dX8_turn_21 : decode cX8_turn 21 = .ok (.if_icmp .lt 21, 3) := by decide +kernel
theorem dX8_turn_24 : decode cX8_turn 24 = .ok (.iload_n 1, 1) := by decide +kernel
theorem dX8_turn_25 : decode cX8_turn 25 = .ok (.bipush 30, 2) := by decide +kernel
theorem dX8_turn_27 : decode cX8_turn 27 = .ok (.if_icmp .gt 15, 3) := by decide +kernel
theorem dX8_turn_30 : decode cX8_turn 30 = .ok (.iload_n 1, 1) := by decide +kernel
theorem dX8_turn_31 : decode cX8_turn 31 = .ok (.aload_n 0, 1) := by decide +kernel
theorem dX8_turn_32 : decode cX8_turn 32 = .ok (.getfield 50, 3) := by decide +kernel
theorem dX8_turn_35 : decode cX8_turn 35 = .ok (.invokestatic 80, 3) := by decide +kernel
theorem dX8_turn_38 : decode cX8_turn 38 = .ok (.iconst 1, 1) := by decide +kernel
theorem dX8_turn_39 : decode cX8_turn 39 = .ok (.if_icmp .le 5, 3) := by decide +kernel
theorem dX8_turn_42 : decode cX8_turn 42 = .ok (.iconst (-1), 1) := by decide +kernel
theorem dX8_turn_43 : decode cX8_turn 43 = .ok (.ireturn, 1) := by decide +kernel
theorem dX8_turn_44 : decode cX8_turn 44 = .ok (.iconst 0, 1) := by decide +kernel
theorem dX8_turn_45 : decode cX8_turn 45 = .ok (.istore_n 3, 1) := by decide +kernel
theorem dX8_turn_46 : decode cX8_turn 46 = .ok (.iload_n 3, 1) := by decide +kernel
theorem dX8_turn_47 : decode cX8_turn 47 = .ok (.sipush 900, 3) := by decide +kernel
theorem dX8_turn_50 : decode cX8_turn 50 = .ok (.if_icmp .ge 21, 3) := by decide +kernel
theorem dX8_turn_53 : decode cX8_turn 53 = .ok (.aload_n 0, 1) := by decide +kernel
theorem dX8_turn_54 : decode cX8_turn 54 = .ok (.getfield 13, 3) := by decide +kernel
theorem dX8_turn_57 : decode cX8_turn 57 = .ok (.iload_n 3, 1) := by decide +kernel
theorem dX8_turn_58 : decode cX8_turn 58 = .ok (.aload_n 0, 1) := by decide +kernel
theorem dX8_turn_59 : decode cX8_turn 59 = .ok (.getfield 7, 3) := by decide +kernel
theorem dX8_turn_62 : decode cX8_turn 62 = .ok (.iload_n 3, 1) := by decide +kernel
theorem dX8_turn_63 : decode cX8_turn 63 = .ok (.baload, 1) := by decide +kernel
theorem dX8_turn_64 : decode cX8_turn 64 = .ok (.bastore, 1) := by decide +kernel
theorem dX8_turn_65 : decode cX8_turn 65 = .ok (.iinc 3 1, 3) := by decide +kernel
theorem dX8_turn_68 : decode cX8_turn 68 = .ok (.goto (-22), 3) := by decide +kernel
theorem dX8_turn_71 : decode cX8_turn 71 = .ok (.iconst 0, 1) := by decide +kernel
theorem dX8_turn_72 : decode cX8_turn 72 = .ok (.istore_n 3, 1) := by decide +kernel
theorem dX8_turn_73 : decode cX8_turn 73 = .ok (.iload_n 3, 1) := by decide +kernel
theorem dX8_turn_74 : decode cX8_turn 74 = .ok (.aload_n 0, 1) := by decide +kernel
theorem dX8_turn_75 : decode cX8_turn 75 = .ok (.getfield 50, 3) := by decide +kernel
theorem dX8_turn_78 : decode cX8_turn 78 = .ok (.if_icmp .ge 77, 3) := by decide +kernel
theorem dX8_turn_81 : decode cX8_turn 81 = .ok (.iconst 0, 1) := by decide +kernel
theorem dX8_turn_82 : decode cX8_turn 82 = .ok (.istore 4, 2) := by decide +kernel
theorem dX8_turn_84 : decode cX8_turn 84 = .ok (.iload 4, 2) := by decide +kernel
theorem dX8_turn_86 : decode cX8_turn 86 = .ok (.aload_n 0, 1) := by decide +kernel
theorem dX8_turn_87 : decode cX8_turn 87 = .ok (.getfield 50, 3) := by decide +kernel
theorem dX8_turn_90 : decode cX8_turn 90 = .ok (.if_icmp .ge 59, 3) := by decide +kernel
theorem dX8_turn_93 : decode cX8_turn 93 = .ok (.iload_n 3, 1) := by decide +kernel
theorem dX8_turn_94 : decode cX8_turn 94 = .ok (.iload_n 1, 1) := by decide +kernel
theorem dX8_turn_95 : decode cX8_turn 95 = .ok (.imul, 1) := by decide +kernel
theorem dX8_turn_96 : decode cX8_turn 96 = .ok (.iload_n 2, 1) := by decide +kernel
theorem dX8_turn_97 : decode cX8_turn 97 = .ok (.iadd, 1) := by decide +kernel
theorem dX8_turn_98 : decode cX8_turn 98 = .ok (.aload_n 0, 1) := by decide +kernel
theorem dX8_turn_99 : decode cX8_turn 99 = .ok (.getfield 50, 3) := by decide +kernel
theorem dX8_turn_102 : decode cX8_turn 102 = .ok (.irem, 1) := by decide +kernel
theorem dX8_turn_103 : decode cX8_turn 103 = .ok (.istore 5, 2) := by decide +kernel
theorem dX8_turn_105 : decode cX8_turn 105 = .ok (.iload 4, 2) := by decide +kernel
theorem dX8_turn_107 : decode cX8_turn 107 = .ok (.iload_n 1, 1) := by decide +kernel
theorem dX8_turn_108 : decode cX8_turn 108 = .ok (.imul, 1) := by decide +kernel
theorem dX8_turn_109 : decode cX8_turn 109 = .ok (.iload_n 2, 1) := by decide +kernel
theorem dX8_turn_110 : decode cX8_turn 110 = .ok (.iadd, 1) := by decide +kernel
theorem dX8_turn_111 : decode cX8_turn 111 = .ok (.aload_n 0, 1) := by decide +kernel
theorem dX8_turn_112 : decode cX8_turn 112 = .ok (.getfield 50, 3) := by decide +kernel
theorem dX8_turn_115 : decode cX8_turn 115 = .ok (.irem, 1) := by decide +kernel
theorem dX8_turn_116 : decode cX8_turn 116 = .ok (.istore 6, 2) := by decide +kernel
theorem dX8_turn_118 : decode cX8_turn 118 = .ok (.aload_n 0, 1) := by decide +kernel
theorem dX8_turn_119 : decode cX8_turn 119 = .ok (.getfield 7, 3) := by decide +kernel
theorem dX8_turn_122 : decode cX8_turn 122 = .ok (.bipush 30, 2) := by decide +kernel
theorem dX8_turn_124 : decode cX8_turn 124 = .ok (.iload 5, 2) := by decide +kernel
theorem dX8_turn_126 : decode cX8_turn 126 = .ok (.imul, 1) := by decide +kernel
theorem dX8_turn_127 : decode cX8_turn 127 = .ok (.iload 6, 2) := by decide +kernel
theorem dX8_turn_129 : decode cX8_turn 129 = .ok (.iadd, 1) := by decide +kernel
theorem dX8_turn_130 : decode cX8_turn 130 = .ok (.aload_n 0, 1) := by decide +kernel
theorem dX8_turn_131 : decode cX8_turn 131 = .ok (.getfield 13, 3) := by decide +kernel
theorem dX8_turn_134 : decode cX8_turn 134 = .ok (.bipush 30, 2) := by decide +kernel
theorem dX8_turn_136 : decode cX8_turn 136 = .ok (.iload_n 3, 1) := by decide +kernel
theorem dX8_turn_137 : decode cX8_turn 137 = .ok (.imul, 1) := by decide +kernel
theorem dX8_turn_138 : decode cX8_turn 138 = .ok (.iload 4, 2) := by decide +kernel
theorem dX8_turn_140 : decode cX8_turn 140 = .ok (.iadd, 1) := by decide +kernel
theorem dX8_turn_141 : decode cX8_turn 141 = .ok (.baload, 1) := by decide +kernel
theorem dX8_turn_142 : decode cX8_turn 142 = .ok (.bastore, 1) := by decide +kernel
theorem dX8_turn_143 : decode cX8_turn 143 = .ok (.iinc 4 1, 3) := by decide +kernel
theorem dX8_turn_146 : decode cX8_turn 146 = .ok (.goto (-62), 3) := by decide +kernel
theorem dX8_turn_149 : decode cX8_turn 149 = .ok (.iinc 3 1, 3) := by decide +kernel
theorem dX8_turn_152 : decode cX8_turn 152 = .ok (.goto (-79), 3) := by decide +kernel
theorem dX8_turn_155 : decode cX8_turn 155 = .ok (.aload_n 0, 1) := by decide +kernel
theorem dX8_turn_156 : decode cX8_turn 156 = .ok (.iconst 0, 1) := by decide +kernel
theorem dX8_turn_157 : decode cX8_turn 157 = .ok (.putfield 54, 3) := by decide +kernel
theorem dX8_turn_160 : decode cX8_turn 160 = .ok (.iconst 1, 1) := by decide +kernel
theorem dX8_turn_161 : decode cX8_turn 161 = .ok (.ireturn, 1) := by decide +kernel
theorem dX8_degreeOf_0 : decode cX8_degreeOf 0 = .ok (.iconst 0, 1) := by decide +kernel
theorem dX8_degreeOf_1 : decode cX8_degreeOf 1 = .ok (.istore_n 2, 1) := by decide +kernel
theorem dX8_degreeOf_2 : decode cX8_degreeOf 2 = .ok (.iconst 0, 1) := by decide +kernel
theorem dX8_degreeOf_3 : decode cX8_degreeOf 3 = .ok (.istore_n 3, 1) := by decide +kernel
theorem dX8_degreeOf_4 : decode cX8_degreeOf 4 = .ok (.iload_n 3, 1) := by decide +kernel
theorem dX8_degreeOf_5 : decode cX8_degreeOf 5 = .ok (.aload_n 0, 1) := by decide +kernel
theorem dX8_degreeOf_6 : decode cX8_degreeOf 6 = .ok (.getfield 50, 3) := by decide +kernel
theorem dX8_degreeOf_9 : decode cX8_degreeOf 9 = .ok (.if_icmp .ge 26, 3) := by decide +kernel
theorem dX8_degreeOf_12 : decode cX8_degreeOf 12 = .ok (.iload_n 2, 1) := by decide +kernel
theorem dX8_degreeOf_13 : decode cX8_degreeOf 13 = .ok (.aload_n 0, 1) := by decide +kernel
theorem dX8_degreeOf_14 : decode cX8_degreeOf 14 = .ok (.iload_n 1, 1) := by decide +kernel
theorem dX8_degreeOf_15 : decode cX8_degreeOf 15 = .ok (.iload_n 3, 1) := by decide +kernel
theorem dX8_degreeOf_16 : decode cX8_degreeOf 16 = .ok (.invokevirtual 62, 3) := by decide +kernel
theorem dX8_degreeOf_19 : decode cX8_degreeOf 19 = .ok (.ifCond .eq 7, 3) := by decide +kernel
theorem dX8_degreeOf_22 : decode cX8_degreeOf 22 = .ok (.iconst 1, 1) := by decide +kernel
theorem dX8_degreeOf_23 : decode cX8_degreeOf 23 = .ok (.goto 4, 3) := by decide +kernel
theorem dX8_degreeOf_26 : decode cX8_degreeOf 26 = .ok (.iconst 0, 1) := by decide +kernel
theorem dX8_degreeOf_27 : decode cX8_degreeOf 27 = .ok (.iadd, 1) := by decide +kernel
theorem dX8_degreeOf_28 : decode cX8_degreeOf 28 = .ok (.istore_n 2, 1) := by decide +kernel
theorem dX8_degreeOf_29 : decode cX8_degreeOf 29 = .ok (.iinc 3 1, 3) := by decide +kernel
theorem dX8_degreeOf_32 : decode cX8_degreeOf 32 = .ok (.goto (-28), 3) := by decide +kernel
theorem dX8_degreeOf_35 : decode cX8_degreeOf 35 = .ok (.iload_n 2, 1) := by decide +kernel
theorem dX8_degreeOf_36 : decode cX8_degreeOf 36 = .ok (.ireturn, 1) := by decide +kernel
theorem dX8_count_0 : decode cX8_count 0 = .ok (.iconst 0, 1) := by decide +kernel
theorem dX8_count_1 : decode cX8_count 1 = .ok (.istore_n 2, 1) := by decide +kernel
theorem dX8_count_2 : decode cX8_count 2 = .ok (.iconst 0, 1) := by decide +kernel
theorem dX8_count_3 : decode cX8_count 3 = .ok (.istore_n 3, 1) := by decide +kernel
theorem dX8_count_4 : decode cX8_count 4 = .ok (.iload_n 3, 1) := by decide +kernel
theorem dX8_count_5 : decode cX8_count 5 = .ok (.aload_n 0, 1) := by decide +kernel
theorem dX8_count_6 : decode cX8_count 6 = .ok (.getfield 50, 3) := by decide +kernel
theorem dX8_count_9 : decode cX8_count 9 = .ok (.if_icmp .ge 28, 3) := by decide +kernel
theorem dX8_count_12 : decode cX8_count 12 = .ok (.aload_n 0, 1) := by decide +kernel
theorem dX8_count_13 : decode cX8_count 13 = .ok (.iload_n 3, 1) := by decide +kernel
theorem dX8_count_14 : decode cX8_count 14 = .ok (.invokevirtual 70, 3) := by decide +kernel
theorem dX8_count_17 : decode cX8_count 17 = .ok (.iload_n 2, 1) := by decide +kernel
theorem dX8_count_18 : decode cX8_count 18 = .ok (.if_icmp .le 11, 3) := by decide +kernel
theorem dX8_count_21 : decode cX8_count 21 = .ok (.aload_n 0, 1) := by decide +kernel
theorem dX8_count_22 : decode cX8_count 22 = .ok (.iload_n 3, 1) := by decide +kernel
theorem dX8_count_23 : decode cX8_count 23 = .ok (.invokevirtual 70, 3) := by decide +kernel
theorem dX8_count_26 : decode cX8_count 26 = .ok (.goto 4, 3) := by decide +kernel
theorem dX8_count_29 : decode cX8_count 29 = .ok (.iload_n 2, 1) := by decide +kernel
theorem dX8_count_30 : decode cX8_count 30 = .ok (.istore_n 2, 1) := by decide +kernel
theorem dX8_count_31 : decode cX8_count 31 = .ok (.iinc 3 1, 3) := by decide +kernel
theorem dX8_count_34 : decode cX8_count 34 = .ok (.goto (-30), 3) := by decide +kernel
theorem dX8_count_37 : decode cX8_count 37 = .ok (.iload_n 1, 1) := by decide +kernel
theorem dX8_count_38 : decode cX8_count 38 = .ok (.ifCond .ne 10, 3) := by decide +kernel
theorem dX8_count_41 : decode cX8_count 41 = .ok (.aload_n 0, 1) := by decide +kernel
theorem dX8_count_42 : decode cX8_count 42 = .ok (.getfield 50, 3) := by decide +kernel
theorem dX8_count_45 : decode cX8_count 45 = .ok (.goto 25, 3) := by decide +kernel
theorem dX8_count_48 : decode cX8_count 48 = .ok (.iload_n 1, 1) := by decide +kernel
theorem dX8_count_49 : decode cX8_count 49 = .ok (.iconst 1, 1) := by decide +kernel
theorem dX8_count_50 : decode cX8_count 50 = .ok (.if_icmp .ne 10, 3) := by decide +kernel
theorem dX8_count_53 : decode cX8_count 53 = .ok (.aload_n 0, 1) := by decide +kernel
theorem dX8_count_54 : decode cX8_count 54 = .ok (.invokevirtual 76, 3) := by decide +kernel
theorem dX8_count_57 : decode cX8_count 57 = .ok (.goto 13, 3) := by decide +kernel
theorem dX8_count_60 : decode cX8_count 60 = .ok (.iload_n 1, 1) := by decide +kernel
theorem dX8_count_61 : decode cX8_count 61 = .ok (.iconst 2, 1) := by decide +kernel
theorem dX8_count_62 : decode cX8_count 62 = .ok (.if_icmp .ne 7, 3) := by decide +kernel
theorem dX8_count_65 : decode cX8_count 65 = .ok (.iload_n 2, 1) := by decide +kernel
theorem dX8_count_66 : decode cX8_count 66 = .ok (.goto 4, 3) := by decide +kernel
theorem dX8_count_69 : decode cX8_count 69 = .ok (.iconst (-1), 1) := by decide +kernel
theorem dX8_count_70 : decode cX8_count 70 = .ok (.ireturn, 1) := by decide +kernel
theorem dX8_has_0 : decode cX8_has 0 = .ok (.aload_n 0, 1) := by decide +kernel
theorem dX8_has_1 : decode cX8_has 1 = .ok (.iload_n 1, 1) := by decide +kernel
theorem dX8_has_2 : decode cX8_has 2 = .ok (.invokevirtual 58, 3) := by decide +kernel
theorem dX8_has_5 : decode cX8_has 5 = .ok (.ifCond .eq 24, 3) := by decide +kernel
theorem dX8_has_8 : decode cX8_has 8 = .ok (.aload_n 0, 1) := by decide +kernel
theorem dX8_has_9 : decode cX8_has 9 = .ok (.iload_n 2, 1) := by decide +kernel
theorem dX8_has_10 : decode cX8_has 10 = .ok (.invokevirtual 58, 3) := by decide +kernel
theorem dX8_has_13 : decode cX8_has 13 = .ok (.ifCond .eq 16, 3) := by decide +kernel
theorem dX8_has_16 : decode cX8_has 16 = .ok (.aload_n 0, 1) := by decide +kernel
theorem dX8_has_17 : decode cX8_has 17 = .ok (.iload_n 1, 1) := by decide +kernel
theorem dX8_has_18 : decode cX8_has 18 = .ok (.iload_n 2, 1) := by decide +kernel
theorem dX8_has_19 : decode cX8_has 19 = .ok (.invokevirtual 62, 3) := by decide +kernel
theorem dX8_has_22 : decode cX8_has 22 = .ok (.ifCond .eq 7, 3) := by decide +kernel
theorem dX8_has_25 : decode cX8_has 25 = .ok (.iconst 1, 1) := by decide +kernel
theorem dX8_has_26 : decode cX8_has 26 = .ok (.goto 4, 3) := by decide +kernel
theorem dX8_has_29 : decode cX8_has 29 = .ok (.iconst 0, 1) := by decide +kernel
theorem dX8_has_30 : decode cX8_has 30 = .ok (.ireturn, 1) := by decide +kernel
theorem dX8_degree_0 : decode cX8_degree 0 = .ok (.aload_n 0, 1) := by decide +kernel
theorem dX8_degree_1 : decode cX8_degree 1 = .ok (.iload_n 1, 1) := by decide +kernel
theorem dX8_degree_2 : decode cX8_degree 2 = .ok (.invokevirtual 58, 3) := by decide +kernel
theorem dX8_degree_5 : decode cX8_degree 5 = .ok (.ifCond .eq 11, 3) := by decide +kernel
theorem dX8_degree_8 : decode cX8_degree 8 = .ok (.aload_n 0, 1) := by decide +kernel
theorem dX8_degree_9 : decode cX8_degree 9 = .ok (.iload_n 1, 1) := by decide +kernel
theorem dX8_degree_10 : decode cX8_degree 10 = .ok (.invokevirtual 70, 3) := by decide +kernel
theorem dX8_degree_13 : decode cX8_degree 13 = .ok (.goto 4, 3) := by decide +kernel
theorem dX8_degree_16 : decode cX8_degree 16 = .ok (.iconst (-1), 1) := by decide +kernel
theorem dX8_degree_17 : decode cX8_degree 17 = .ok (.ireturn, 1) := by decide +kernel
theorem dX8_clearColours_0 : decode cX8_clearColours 0 = .ok (.iconst 0, 1) := by decide +kernel
theorem dX8_clearColours_1 : decode cX8_clearColours 1 = .ok (.istore_n 1, 1) := by decide +kernel
theorem dX8_clearColours_2 : decode cX8_clearColours 2 = .ok (.iload_n 1, 1) := by decide +kernel
theorem dX8_clearColours_3 : decode cX8_clearColours 3 = .ok (.bipush 30, 2) := by decide +kernel
theorem dX8_clearColours_5 : decode cX8_clearColours 5 = .ok (.if_icmp .ge 16, 3) := by decide +kernel
theorem dX8_clearColours_8 : decode cX8_clearColours 8 = .ok (.aload_n 0, 1) := by decide +kernel
theorem dX8_clearColours_9 : decode cX8_clearColours 9 = .ok (.getfield 16, 3) := by decide +kernel
theorem dX8_clearColours_12 : decode cX8_clearColours 12 = .ok (.iload_n 1, 1) := by decide +kernel
theorem dX8_clearColours_13 : decode cX8_clearColours 13 = .ok (.iconst (-1), 1) := by decide +kernel
theorem dX8_clearColours_14 : decode cX8_clearColours 14 = .ok (.iastore, 1) := by decide +kernel
theorem dX8_clearColours_15 : decode cX8_clearColours 15 = .ok (.iinc 1 1, 3) := by decide +kernel
theorem dX8_clearColours_18 : decode cX8_clearColours 18 = .ok (.goto (-16), 3) := by decide +kernel
theorem dX8_clearColours_21 : decode cX8_clearColours 21 = .ok (.return_, 1) := by decide +kernel
theorem dX8_neighbourWith_0 : decode cX8_neighbourWith 0 = .ok (.iconst 0, 1) := by decide +kernel
theorem dX8_neighbourWith_1 : decode cX8_neighbourWith 1 = .ok (.istore_n 3, 1) := by decide +kernel
theorem dX8_neighbourWith_2 : decode cX8_neighbourWith 2 = .ok (.iload_n 3, 1) := by decide +kernel
theorem dX8_neighbourWith_3 : decode cX8_neighbourWith 3 = .ok (.aload_n 0, 1) := by decide +kernel
theorem dX8_neighbourWith_4 : decode cX8_neighbourWith 4 = .ok (.getfield 50, 3) := by decide +kernel
theorem dX8_neighbourWith_7 : decode cX8_neighbourWith 7 = .ok (.if_icmp .ge 28, 3) := by decide +kernel
theorem dX8_neighbourWith_10 : decode cX8_neighbourWith 10 = .ok (.aload_n 0, 1) := by decide +kernel
theorem dX8_neighbourWith_11 : decode cX8_neighbourWith 11 = .ok (.iload_n 1, 1) := by decide +kernel
theorem dX8_neighbourWith_12 : decode cX8_neighbourWith 12 = .ok (.iload_n 3, 1) := by decide +kernel
theorem dX8_neighbourWith_13 : decode cX8_neighbourWith 13 = .ok (.invokevirtual 62, 3) := by decide +kernel
theorem dX8_neighbourWith_16 : decode cX8_neighbourWith 16 = .ok (.ifCond .eq 13, 3) := by decide +kernel
theorem dX8_neighbourWith_19 : decode cX8_neighbourWith 19 = .ok (.aload_n 0, 1) := by decide +kernel
theorem dX8_neighbourWith_20 : decode cX8_neighbourWith 20 = .ok (.getfield 16, 3) := by decide +kernel
theorem dX8_neighbourWith_23 : decode cX8_neighbourWith 23 = .ok (.iload_n 3, 1) := by decide +kernel
theorem dX8_neighbourWith_24 : decode cX8_neighbourWith 24 = .ok (.iaload, 1) := by decide +kernel
theorem dX8_neighbourWith_25 : decode cX8_neighbourWith 25 = .ok (.iload_n 2, 1) := by decide +kernel
theorem dX8_neighbourWith_26 : decode cX8_neighbourWith 26 = .ok (.if_icmp .eq 9, 3) := by decide +kernel
theorem dX8_neighbourWith_29 : decode cX8_neighbourWith 29 = .ok (.iinc 3 1, 3) := by decide +kernel
theorem dX8_neighbourWith_32 : decode cX8_neighbourWith 32 = .ok (.goto (-30), 3) := by decide +kernel
theorem dX8_neighbourWith_35 : decode cX8_neighbourWith 35 = .ok (.iload_n 3, 1) := by decide +kernel
theorem dX8_neighbourWith_36 : decode cX8_neighbourWith 36 = .ok (.aload_n 0, 1) := by decide +kernel
theorem dX8_neighbourWith_37 : decode cX8_neighbourWith 37 = .ok (.getfield 50, 3) := by decide +kernel
theorem dX8_neighbourWith_40 : decode cX8_neighbourWith 40 = .ok (.if_icmp .ge 7, 3) := by decide +kernel
theorem dX8_neighbourWith_43 : decode cX8_neighbourWith 43 = .ok (.iload_n 3, 1) := by decide +kernel
theorem dX8_neighbourWith_44 : decode cX8_neighbourWith 44 = .ok (.goto 4, 3) := by decide +kernel
theorem dX8_neighbourWith_47 : decode cX8_neighbourWith 47 = .ok (.iconst (-1), 1) := by decide +kernel
theorem dX8_neighbourWith_48 : decode cX8_neighbourWith 48 = .ok (.ireturn, 1) := by decide +kernel
theorem dX8_saturationOf_0 : decode cX8_saturationOf 0 = .ok (.iconst 0, 1) := by decide +kernel
theorem dX8_saturationOf_1 : decode cX8_saturationOf 1 = .ok (.istore_n 2, 1) := by decide +kernel
theorem dX8_saturationOf_2 : decode cX8_saturationOf 2 = .ok (.iconst 0, 1) := by decide +kernel
theorem dX8_saturationOf_3 : decode cX8_saturationOf 3 = .ok (.istore_n 3, 1) := by decide +kernel
theorem dX8_saturationOf_4 : decode cX8_saturationOf 4 = .ok (.iload_n 3, 1) := by decide +kernel
theorem dX8_saturationOf_5 : decode cX8_saturationOf 5 = .ok (.bipush 30, 2) := by decide +kernel
theorem dX8_saturationOf_7 : decode cX8_saturationOf 7 = .ok (.if_icmp .ge 26, 3) := by decide +kernel
theorem dX8_saturationOf_10 : decode cX8_saturationOf 10 = .ok (.iload_n 2, 1) := by decide +kernel
theorem dX8_saturationOf_11 : decode cX8_saturationOf 11 = .ok (.aload_n 0, 1) := by decide +kernel
theorem dX8_saturationOf_12 : decode cX8_saturationOf 12 = .ok (.iload_n 1, 1) := by decide +kernel
theorem dX8_saturationOf_13 : decode cX8_saturationOf 13 = .ok (.iload_n 3, 1) := by decide +kernel
theorem dX8_saturationOf_14 : decode cX8_saturationOf 14 = .ok (.invokevirtual 84, 3) := by decide +kernel
theorem dX8_saturationOf_17 : decode cX8_saturationOf 17 = .ok (.ifCond .lt 7, 3) := by decide +kernel
theorem dX8_saturationOf_20 : decode cX8_saturationOf 20 = .ok (.iconst 1, 1) := by decide +kernel
theorem dX8_saturationOf_21 : decode cX8_saturationOf 21 = .ok (.goto 4, 3) := by decide +kernel
theorem dX8_saturationOf_24 : decode cX8_saturationOf 24 = .ok (.iconst 0, 1) := by decide +kernel
theorem dX8_saturationOf_25 : decode cX8_saturationOf 25 = .ok (.iadd, 1) := by decide +kernel
theorem dX8_saturationOf_26 : decode cX8_saturationOf 26 = .ok (.istore_n 2, 1) := by decide +kernel
theorem dX8_saturationOf_27 : decode cX8_saturationOf 27 = .ok (.iinc 3 1, 3) := by decide +kernel
theorem dX8_saturationOf_30 : decode cX8_saturationOf 30 = .ok (.goto (-26), 3) := by decide +kernel
theorem dX8_saturationOf_33 : decode cX8_saturationOf 33 = .ok (.iload_n 2, 1) := by decide +kernel
theorem dX8_saturationOf_34 : decode cX8_saturationOf 34 = .ok (.ireturn, 1) := by decide +kernel
theorem dX8_bare_0 : decode cX8_bare 0 = .ok (.iconst 0, 1) := by decide +kernel
theorem dX8_bare_1 : decode cX8_bare 1 = .ok (.istore_n 2, 1) := by decide +kernel
theorem dX8_bare_2 : decode cX8_bare 2 = .ok (.iconst 0, 1) := by decide +kernel
theorem dX8_bare_3 : decode cX8_bare 3 = .ok (.istore_n 3, 1) := by decide +kernel
theorem dX8_bare_4 : decode cX8_bare 4 = .ok (.iload_n 3, 1) := by decide +kernel
theorem dX8_bare_5 : decode cX8_bare 5 = .ok (.aload_n 0, 1) := by decide +kernel
theorem dX8_bare_6 : decode cX8_bare 6 = .ok (.getfield 50, 3) := by decide +kernel
theorem dX8_bare_9 : decode cX8_bare 9 = .ok (.if_icmp .ge 35, 3) := by decide +kernel
theorem dX8_bare_12 : decode cX8_bare 12 = .ok (.iload_n 2, 1) := by decide +kernel
theorem dX8_bare_13 : decode cX8_bare 13 = .ok (.aload_n 0, 1) := by decide +kernel
theorem dX8_bare_14 : decode cX8_bare 14 = .ok (.iload_n 1, 1) := by decide +kernel
theorem dX8_bare_15 : decode cX8_bare 15 = .ok (.iload_n 3, 1) := by decide +kernel
theorem dX8_bare_16 : decode cX8_bare 16 = .ok (.invokevirtual 62, 3) := by decide +kernel
theorem dX8_bare_19 : decode cX8_bare 19 = .ok (.ifCond .eq 16, 3) := by decide +kernel
theorem dX8_bare_22 : decode cX8_bare 22 = .ok (.aload_n 0, 1) := by decide +kernel
theorem dX8_bare_23 : decode cX8_bare 23 = .ok (.getfield 16, 3) := by decide +kernel
theorem dX8_bare_26 : decode cX8_bare 26 = .ok (.iload_n 3, 1) := by decide +kernel
theorem dX8_bare_27 : decode cX8_bare 27 = .ok (.iaload, 1) := by decide +kernel
theorem dX8_bare_28 : decode cX8_bare 28 = .ok (.ifCond .ge 7, 3) := by decide +kernel
theorem dX8_bare_31 : decode cX8_bare 31 = .ok (.iconst 1, 1) := by decide +kernel
theorem dX8_bare_32 : decode cX8_bare 32 = .ok (.goto 4, 3) := by decide +kernel
theorem dX8_bare_35 : decode cX8_bare 35 = .ok (.iconst 0, 1) := by decide +kernel
theorem dX8_bare_36 : decode cX8_bare 36 = .ok (.iadd, 1) := by decide +kernel
theorem dX8_bare_37 : decode cX8_bare 37 = .ok (.istore_n 2, 1) := by decide +kernel
theorem dX8_bare_38 : decode cX8_bare 38 = .ok (.iinc 3 1, 3) := by decide +kernel
theorem dX8_bare_41 : decode cX8_bare 41 = .ok (.goto (-37), 3) := by decide +kernel
theorem dX8_bare_44 : decode cX8_bare 44 = .ok (.iload_n 2, 1) := by decide +kernel
theorem dX8_bare_45 : decode cX8_bare 45 = .ok (.ireturn, 1) := by decide +kernel
theorem dX8_standing_0 : decode cX8_standing 0 = .ok (.iconst 0, 1) := by decide +kernel
theorem dX8_standing_1 : decode cX8_standing 1 = .ok (.istore_n 1, 1) := by decide +kernel
theorem dX8_standing_2 : decode cX8_standing 2 = .ok (.iconst 0, 1) := by decide +kernel
theorem dX8_standing_3 : decode cX8_standing 3 = .ok (.istore_n 2, 1) := by decide +kernel
theorem dX8_standing_4 : decode cX8_standing 4 = .ok (.iload_n 2, 1) := by decide +kernel
theorem dX8_standing_5 : decode cX8_standing 5 = .ok (.aload_n 0, 1) := by decide +kernel
theorem dX8_standing_6 : decode cX8_standing 6 = .ok (.getfield 50, 3) := by decide +kernel
theorem dX8_standing_9 : decode cX8_standing 9 = .ok (.if_icmp .ge 34, 3) := by decide +kernel
theorem dX8_standing_12 : decode cX8_standing 12 = .ok (.aload_n 0, 1) := by decide +kernel
theorem dX8_standing_13 : decode cX8_standing 13 = .ok (.getfield 16, 3) := by decide +kernel
theorem dX8_standing_16 : decode cX8_standing 16 = .ok (.iload_n 2, 1) := by decide +kernel
theorem dX8_standing_17 : decode cX8_standing 17 = .ok (.iaload, 1) := by decide +kernel
theorem dX8_standing_18 : decode cX8_standing 18 = .ok (.iconst 1, 1) := by decide +kernel
theorem dX8_standing_19 : decode cX8_standing 19 = .ok (.iadd, 1) := by decide +kernel
theorem dX8_standing_20 : decode cX8_standing 20 = .ok (.iload_n 1, 1) := by decide +kernel
theorem dX8_standing_21 : decode cX8_standing 21 = .ok (.if_icmp .le 14, 3) := by decide +kernel
theorem dX8_standing_24 : decode cX8_standing 24 = .ok (.aload_n 0, 1) := by decide +kernel
theorem dX8_standing_25 : decode cX8_standing 25 = .ok (.getfield 16, 3) := by decide +kernel
theorem dX8_standing_28 : decode cX8_standing 28 = .ok (.iload_n 2, 1) := by decide +kernel
theorem dX8_standing_29 : decode cX8_standing 29 = .ok (.iaload, 1) := by decide +kernel
theorem dX8_standing_30 : decode cX8_standing 30 = .ok (.iconst 1, 1) := by decide +kernel
theorem dX8_standing_31 : decode cX8_standing 31 = .ok (.iadd, 1) := by decide +kernel
theorem dX8_standing_32 : decode cX8_standing 32 = .ok (.goto 4, 3) := by decide +kernel
theorem dX8_standing_35 : decode cX8_standing 35 = .ok (.iload_n 1, 1) := by decide +kernel
theorem dX8_standing_36 : decode cX8_standing 36 = .ok (.istore_n 1, 1) := by decide +kernel
theorem dX8_standing_37 : decode cX8_standing 37 = .ok (.iinc 2 1, 3) := by decide +kernel
theorem dX8_standing_40 : decode cX8_standing 40 = .ok (.goto (-36), 3) := by decide +kernel
theorem dX8_standing_43 : decode cX8_standing 43 = .ok (.iload_n 1, 1) := by decide +kernel
theorem dX8_standing_44 : decode cX8_standing 44 = .ok (.ireturn, 1) := by decide +kernel
theorem dX8_choice_0 : decode cX8_choice 0 = .ok (.iconst (-1), 1) := by decide +kernel
theorem dX8_choice_1 : decode cX8_choice 1 = .ok (.istore_n 1, 1) := by decide +kernel
theorem dX8_choice_2 : decode cX8_choice 2 = .ok (.iconst 0, 1) := by decide +kernel
theorem dX8_choice_3 : decode cX8_choice 3 = .ok (.istore_n 2, 1) := by decide +kernel
theorem dX8_choice_4 : decode cX8_choice 4 = .ok (.iload_n 2, 1) := by decide +kernel
theorem dX8_choice_5 : decode cX8_choice 5 = .ok (.aload_n 0, 1) := by decide +kernel
theorem dX8_choice_6 : decode cX8_choice 6 = .ok (.getfield 50, 3) := by decide +kernel
theorem dX8_choice_9 : decode cX8_choice 9 = .ok (.if_icmp .ge 87, 3) := by decide +kernel
theorem dX8_choice_12 : decode cX8_choice 12 = .ok (.aload_n 0, 1) := by decide +kernel
theorem dX8_choice_13 : decode cX8_choice 13 = .ok (.getfield 16, 3) := by decide +kernel
theorem dX8_choice_16 : decode cX8_choice 16 = .ok (.iload_n 2, 1) := by decide +kernel
theorem dX8_choice_17 : decode cX8_choice 17 = .ok (.iaload, 1) := by decide +kernel
theorem dX8_choice_18 : decode cX8_choice 18 = .ok (.ifCond .ge 72, 3) := by decide +kernel
theorem dX8_choice_21 : decode cX8_choice 21 = .ok (.iload_n 1, 1) := by decide +kernel
theorem dX8_choice_22 : decode cX8_choice 22 = .ok (.ifCond .lt 16, 3) := by decide +kernel
theorem dX8_choice_25 : decode cX8_choice 25 = .ok (.aload_n 0, 1) := by decide +kernel
theorem dX8_choice_26 : decode cX8_choice 26 = .ok (.iload_n 2, 1) := by decide +kernel
theorem dX8_choice_27 : decode cX8_choice 27 = .ok (.invokevirtual 87, 3) := by decide +kernel
theorem dX8_choice_30 : decode cX8_choice 30 = .ok (.aload_n 0, 1) := by decide +kernel
theorem dX8_choice_31 : decode cX8_choice 31 = .ok (.iload_n 1, 1) := by decide +kernel
theorem dX8_choice_32 : decode cX8_choice 32 = .ok (.invokevirtual 87, 3) := by decide +kernel
theorem dX8_choice_35 : decode cX8_choice 35 = .ok (.if_icmp .le 7, 3) := by decide +kernel
theorem dX8_choice_38 : decode cX8_choice 38 = .ok (.iconst 1, 1) := by decide +kernel
theorem dX8_choice_39 : decode cX8_choice 39 = .ok (.goto 4, 3) := by decide +kernel
theorem dX8_choice_42 : decode cX8_choice 42 = .ok (.iconst 0, 1) := by decide +kernel
theorem dX8_choice_43 : decode cX8_choice 43 = .ok (.istore_n 3, 1) := by decide +kernel
theorem dX8_choice_44 : decode cX8_choice 44 = .ok (.iload_n 3, 1) := by decide +kernel
theorem dX8_choice_45 : decode cX8_choice 45 = .ok (.ifCond .ne 29, 3) := by decide +kernel
theorem dX8_choice_48 : decode cX8_choice 48 = .ok (.aload_n 0, 1) := by decide +kernel
theorem dX8_choice_49 : decode cX8_choice 49 = .ok (.iload_n 2, 1) := by decide +kernel
theorem dX8_choice_50 : decode cX8_choice 50 = .ok (.invokevirtual 87, 3) := by decide +kernel
theorem dX8_choice_53 : decode cX8_choice 53 = .ok (.aload_n 0, 1) := by decide +kernel
theorem dX8_choice_54 : decode cX8_choice 54 = .ok (.iload_n 1, 1) := by decide +kernel
theorem dX8_choice_55 : decode cX8_choice 55 = .ok (.invokevirtual 87, 3) := by decide +kernel
theorem dX8_choice_58 : decode cX8_choice 58 = .ok (.if_icmp .ne 20, 3) := by decide +kernel
theorem dX8_choice_61 : decode cX8_choice 61 = .ok (.aload_n 0, 1) := by decide +kernel
theorem dX8_choice_62 : decode cX8_choice 62 = .ok (.iload_n 2, 1) := by decide +kernel
theorem dX8_choice_63 : decode cX8_choice 63 = .ok (.invokevirtual 90, 3) := by decide +kernel
theorem dX8_choice_66 : decode cX8_choice 66 = .ok (.aload_n 0, 1) := by decide +kernel
theorem dX8_choice_67 : decode cX8_choice 67 = .ok (.iload_n 1, 1) := by decide +kernel
theorem dX8_choice_68 : decode cX8_choice 68 = .ok (.invokevirtual 90, 3) := by decide +kernel
theorem dX8_choice_71 : decode cX8_choice 71 = .ok (.if_icmp .le 7, 3) := by decide +kernel
theorem dX8_choice_74 : decode cX8_choice 74 = .ok (.iconst 1, 1) := by decide +kernel
theorem dX8_choice_75 : decode cX8_choice 75 = .ok (.goto 4, 3) := by decide +kernel
theorem dX8_choice_78 : decode cX8_choice 78 = .ok (.iconst 0, 1) := by decide +kernel
theorem dX8_choice_79 : decode cX8_choice 79 = .ok (.istore_n 3, 1) := by decide +kernel
theorem dX8_choice_80 : decode cX8_choice 80 = .ok (.iload_n 3, 1) := by decide +kernel
theorem dX8_choice_81 : decode cX8_choice 81 = .ok (.ifCond .eq 7, 3) := by decide +kernel
theorem dX8_choice_84 : decode cX8_choice 84 = .ok (.iload_n 2, 1) := by decide +kernel
theorem dX8_choice_85 : decode cX8_choice 85 = .ok (.goto 4, 3) := by decide +kernel
theorem dX8_choice_88 : decode cX8_choice 88 = .ok (.iload_n 1, 1) := by decide +kernel
theorem dX8_choice_89 : decode cX8_choice 89 = .ok (.istore_n 1, 1) := by decide +kernel
theorem dX8_choice_90 : decode cX8_choice 90 = .ok (.iinc 2 1, 3) := by decide +kernel
theorem dX8_choice_93 : decode cX8_choice 93 = .ok (.goto (-89), 3) := by decide +kernel
theorem dX8_choice_96 : decode cX8_choice 96 = .ok (.iload_n 1, 1) := by decide +kernel
theorem dX8_choice_97 : decode cX8_choice 97 = .ok (.ireturn, 1) := by decide +kernel
theorem dX8_freeFor_0 : decode cX8_freeFor 0 = .ok (.iconst 0, 1) := by decide +kernel
theorem dX8_freeFor_1 : decode cX8_freeFor 1 = .ok (.istore_n 3, 1) := by decide +kernel
theorem dX8_freeFor_2 : decode cX8_freeFor 2 = .ok (.iconst 0, 1) := by decide +kernel
theorem dX8_freeFor_3 : decode cX8_freeFor 3 = .ok (.istore 4, 2) := by decide +kernel
theorem dX8_freeFor_5 : decode cX8_freeFor 5 = .ok (.iload 4, 2) := by decide +kernel
theorem dX8_freeFor_7 : decode cX8_freeFor 7 = .ok (.iload_n 2, 1) := by decide +kernel
theorem dX8_freeFor_8 : decode cX8_freeFor 8 = .ok (.if_icmp .ge 76, 3) := by decide +kernel
theorem dX8_freeFor_11 : decode cX8_freeFor 11 = .ok (.iconst 0, 1) := by decide +kernel
theorem dX8_freeFor_12 : decode cX8_freeFor 12 = .ok (.istore 5, 2) := by decide +kernel
theorem dX8_freeFor_14 : decode cX8_freeFor 14 = .ok (.iconst 0, 1) := by decide +kernel
theorem dX8_freeFor_15 : decode cX8_freeFor 15 = .ok (.istore 6, 2) := by decide +kernel
theorem dX8_freeFor_17 : decode cX8_freeFor 17 = .ok (.iload 6, 2) := by decide +kernel
theorem dX8_freeFor_19 : decode cX8_freeFor 19 = .ok (.aload_n 0, 1) := by decide +kernel
theorem dX8_freeFor_20 : decode cX8_freeFor 20 = .ok (.getfield 50, 3) := by decide +kernel
theorem dX8_freeFor_23 : decode cX8_freeFor 23 = .ok (.if_icmp .ge 42, 3) := by decide +kernel
theorem dX8_freeFor_26 : decode cX8_freeFor 26 = .ok (.iload 5, 2) := by decide +kernel
theorem dX8_freeFor_28 : decode cX8_freeFor 28 = .ok (.ifCond .ne 24, 3) := by decide +kernel
theorem dX8_freeFor_31 : decode cX8_freeFor 31 = .ok (.iload_n 1, 1) := by decide +kernel
theorem dX8_freeFor_32 : decode cX8_freeFor 32 = .ok (.iload 6, 2) := by decide +kernel
theorem dX8_freeFor_34 : decode cX8_freeFor 34 = .ok (.ishr, 1) := by decide +kernel
theorem dX8_freeFor_35 : decode cX8_freeFor 35 = .ok (.iconst 1, 1) := by decide +kernel
theorem dX8_freeFor_36 : decode cX8_freeFor 36 = .ok (.iand, 1) := by decide +kernel
theorem dX8_freeFor_37 : decode cX8_freeFor 37 = .ok (.iconst 1, 1) := by decide +kernel
theorem dX8_freeFor_38 : decode cX8_freeFor 38 = .ok (.if_icmp .ne 18, 3) := by decide +kernel
theorem dX8_freeFor_41 : decode cX8_freeFor 41 = .ok (.aload_n 0, 1) := by decide +kernel
theorem dX8_freeFor_42 : decode cX8_freeFor 42 = .ok (.iload 6, 2) := by decide +kernel
theorem dX8_freeFor_44 : decode cX8_freeFor 44 = .ok (.iload 4, 2) := by decide +kernel
theorem dX8_freeFor_46 : decode cX8_freeFor 46 = .ok (.invokevirtual 84, 3) := by decide +kernel
theorem dX8_freeFor_49 : decode cX8_freeFor 49 = .ok (.ifCond .ge 7, 3) := by decide +kernel
theorem dX8_freeFor_52 : decode cX8_freeFor 52 = .ok (.iconst 1, 1) := by decide +kernel
theorem dX8_freeFor_53 : decode cX8_freeFor 53 = .ok (.goto 4, 3) := by decide +kernel
theorem dX8_freeFor_56 : decode cX8_freeFor 56 = .ok (.iconst 0, 1) := by decide +kernel
theorem dX8_freeFor_57 : decode cX8_freeFor 57 = .ok (.istore 5, 2) := by decide +kernel
theorem dX8_freeFor_59 : decode cX8_freeFor 59 = .ok (.iinc 6 1, 3) := by decide +kernel
theorem dX8_freeFor_62 : decode cX8_freeFor 62 = .ok (.goto (-45), 3) := by decide +kernel
theorem dX8_freeFor_65 : decode cX8_freeFor 65 = .ok (.iload_n 3, 1) := by decide +kernel
theorem dX8_freeFor_66 : decode cX8_freeFor 66 = .ok (.iload 5, 2) := by decide +kernel
theorem dX8_freeFor_68 : decode cX8_freeFor 68 = .ok (.ifCond .eq 7, 3) := by decide +kernel
theorem dX8_freeFor_71 : decode cX8_freeFor 71 = .ok (.iconst 1, 1) := by decide +kernel
theorem dX8_freeFor_72 : decode cX8_freeFor 72 = .ok (.goto 4, 3) := by decide +kernel
theorem dX8_freeFor_75 : decode cX8_freeFor 75 = .ok (.iconst 0, 1) := by decide +kernel
theorem dX8_freeFor_76 : decode cX8_freeFor 76 = .ok (.iadd, 1) := by decide +kernel
theorem dX8_freeFor_77 : decode cX8_freeFor 77 = .ok (.istore_n 3, 1) := by decide +kernel
theorem dX8_freeFor_78 : decode cX8_freeFor 78 = .ok (.iinc 4 1, 3) := by decide +kernel
theorem dX8_freeFor_81 : decode cX8_freeFor 81 = .ok (.goto (-76), 3) := by decide +kernel
theorem dX8_freeFor_84 : decode cX8_freeFor 84 = .ok (.iload_n 3, 1) := by decide +kernel
theorem dX8_freeFor_85 : decode cX8_freeFor 85 = .ok (.ireturn, 1) := by decide +kernel
theorem dX8_size_0 : decode cX8_size 0 = .ok (.iconst 0, 1) := by decide +kernel
theorem dX8_size_1 : decode cX8_size 1 = .ok (.istore_n 1, 1) := by decide +kernel
theorem dX8_size_2 : decode cX8_size 2 = .ok (.iconst 0, 1) := by decide +kernel
theorem dX8_size_3 : decode cX8_size 3 = .ok (.istore_n 2, 1) := by decide +kernel
theorem dX8_size_4 : decode cX8_size 4 = .ok (.iload_n 2, 1) := by decide +kernel
theorem dX8_size_5 : decode cX8_size 5 = .ok (.bipush 32, 2) := by decide +kernel
theorem dX8_size_7 : decode cX8_size 7 = .ok (.if_icmp .ge 17, 3) := by decide +kernel
theorem dX8_size_10 : decode cX8_size 10 = .ok (.iload_n 1, 1) := by decide +kernel
theorem dX8_size_11 : decode cX8_size 11 = .ok (.iload_n 0, 1) := by decide +kernel
theorem dX8_size_12 : decode cX8_size 12 = .ok (.iload_n 2, 1) := by decide +kernel
theorem dX8_size_13 : decode cX8_size 13 = .ok (.ishr, 1) := by decide +kernel
theorem dX8_size_14 : decode cX8_size 14 = .ok (.iconst 1, 1) := by decide +kernel
theorem dX8_size_15 : decode cX8_size 15 = .ok (.iand, 1) := by decide +kernel
theorem dX8_size_16 : decode cX8_size 16 = .ok (.iadd, 1) := by decide +kernel
theorem dX8_size_17 : decode cX8_size 17 = .ok (.istore_n 1, 1) := by decide +kernel
theorem dX8_size_18 : decode cX8_size 18 = .ok (.iinc 2 1, 3) := by decide +kernel
theorem dX8_size_21 : decode cX8_size 21 = .ok (.goto (-17), 3) := by decide +kernel
theorem dX8_size_24 : decode cX8_size 24 = .ok (.iload_n 1, 1) := by decide +kernel
theorem dX8_size_25 : decode cX8_size 25 = .ok (.ireturn, 1) := by decide +kernel
theorem dX8_isNearAll_0 : decode cX8_isNearAll 0 = .ok (.iconst 1, 1) := by decide +kernel
theorem dX8_isNearAll_1 : decode cX8_isNearAll 1 = .ok (.istore_n 3, 1) := by decide +kernel
theorem dX8_isNearAll_2 : decode cX8_isNearAll 2 = .ok (.iconst 0, 1) := by decide +kernel
theorem dX8_isNearAll_3 : decode cX8_isNearAll 3 = .ok (.istore 4, 2) := by decide +kernel
theorem dX8_isNearAll_5 : decode cX8_isNearAll 5 = .ok (.iload 4, 2) := by decide +kernel
theorem dX8_isNearAll_7 : decode cX8_isNearAll 7 = .ok (.aload_n 0, 1) := by decide +kernel
theorem dX8_isNearAll_8 : decode cX8_isNearAll 8 = .ok (.getfield 50, 3) := by decide +kernel
theorem dX8_isNearAll_11 : decode cX8_isNearAll 11 = .ok (.if_icmp .ge 38, 3) := by decide +kernel
theorem dX8_isNearAll_14 : decode cX8_isNearAll 14 = .ok (.iload_n 3, 1) := by decide +kernel
theorem dX8_isNearAll_15 : decode cX8_isNearAll 15 = .ok (.ifCond .eq 26, 3) := by decide +kernel
theorem dX8_isNearAll_18 : decode cX8_isNearAll 18 = .ok (.iload_n 2, 1) := by decide +kernel
theorem dX8_isNearAll_19 : decode cX8_isNearAll 19 = .ok (.iload 4, 2) := by decide +kernel
theorem dX8_isNearAll_21 : decode cX8_isNearAll 21 = .ok (.ishr, 1) := by decide +kernel
theorem dX8_isNearAll_22 : decode cX8_isNearAll 22 = .ok (.iconst 1, 1) := by decide +kernel
theorem dX8_isNearAll_23 : decode cX8_isNearAll 23 = .ok (.iand, 1) := by decide +kernel
theorem dX8_isNearAll_24 : decode cX8_isNearAll 24 = .ok (.ifCond .eq 13, 3) := by decide +kernel
theorem dX8_isNearAll_27 : decode cX8_isNearAll 27 = .ok (.aload_n 0, 1) := by decide +kernel
theorem dX8_isNearAll_28 : decode cX8_isNearAll 28 = .ok (.iload_n 1, 1) := by decide +kernel
theorem dX8_isNearAll_29 : decode cX8_isNearAll 29 = .ok (.iload 4, 2) := by decide +kernel
theorem dX8_isNearAll_31 : decode cX8_isNearAll 31 = .ok (.invokevirtual 62, 3) := by decide +kernel
theorem dX8_isNearAll_34 : decode cX8_isNearAll 34 = .ok (.ifCond .eq 7, 3) := by decide +kernel
theorem dX8_isNearAll_37 : decode cX8_isNearAll 37 = .ok (.iconst 1, 1) := by decide +kernel
theorem dX8_isNearAll_38 : decode cX8_isNearAll 38 = .ok (.goto 4, 3) := by decide +kernel
theorem dX8_isNearAll_41 : decode cX8_isNearAll 41 = .ok (.iconst 0, 1) := by decide +kernel
theorem dX8_isNearAll_42 : decode cX8_isNearAll 42 = .ok (.istore_n 3, 1) := by decide +kernel
theorem dX8_isNearAll_43 : decode cX8_isNearAll 43 = .ok (.iinc 4 1, 3) := by decide +kernel
theorem dX8_isNearAll_46 : decode cX8_isNearAll 46 = .ok (.goto (-41), 3) := by decide +kernel
theorem dX8_isNearAll_49 : decode cX8_isNearAll 49 = .ok (.iload_n 3, 1) := by decide +kernel
theorem dX8_isNearAll_50 : decode cX8_isNearAll 50 = .ok (.ireturn, 1) := by decide +kernel
theorem dX8_firstLeft_0 : decode cX8_firstLeft 0 = .ok (.iconst (-1), 1) := by decide +kernel
theorem dX8_firstLeft_1 : decode cX8_firstLeft 1 = .ok (.istore_n 2, 1) := by decide +kernel
theorem dX8_firstLeft_2 : decode cX8_firstLeft 2 = .ok (.iconst 0, 1) := by decide +kernel
theorem dX8_firstLeft_3 : decode cX8_firstLeft 3 = .ok (.istore_n 3, 1) := by decide +kernel
theorem dX8_firstLeft_4 : decode cX8_firstLeft 4 = .ok (.iload_n 3, 1) := by decide +kernel
theorem dX8_firstLeft_5 : decode cX8_firstLeft 5 = .ok (.aload_n 0, 1) := by decide +kernel
theorem dX8_firstLeft_6 : decode cX8_firstLeft 6 = .ok (.getfield 50, 3) := by decide +kernel
theorem dX8_firstLeft_9 : decode cX8_firstLeft 9 = .ok (.if_icmp .ge 110, 3) := by decide +kernel
theorem dX8_firstLeft_12 : decode cX8_firstLeft 12 = .ok (.aload_n 0, 1) := by decide +kernel
theorem dX8_firstLeft_13 : decode cX8_firstLeft 13 = .ok (.getfield 47, 3) := by decide +kernel
theorem dX8_firstLeft_16 : decode cX8_firstLeft 16 = .ok (.iload_n 3, 1) := by decide +kernel
theorem dX8_firstLeft_17 : decode cX8_firstLeft 17 = .ok (.baload, 1) := by decide +kernel
theorem dX8_firstLeft_18 : decode cX8_firstLeft 18 = .ok (.ifCond .ne 95, 3) := by decide +kernel
theorem dX8_firstLeft_21 : decode cX8_firstLeft 21 = .ok (.aload_n 0, 1) := by decide +kernel
theorem dX8_firstLeft_22 : decode cX8_firstLeft 22 = .ok (.getfield 16, 3) := by decide +kernel
theorem dX8_firstLeft_25 : decode cX8_firstLeft 25 = .ok (.iload_n 3, 1) := by decide +kernel
theorem dX8_firstLeft_26 : decode cX8_firstLeft 26 = .ok (.iaload, 1) := by decide +kernel
theorem dX8_firstLeft_27 : decode cX8_firstLeft 27 = .ok (.ifCond .ge 86, 3) := by decide +kernel
theorem dX8_firstLeft_30 : decode cX8_firstLeft 30 = .ok (.iload_n 1, 1) := by decide +kernel
theorem dX8_firstLeft_31 : decode cX8_firstLeft 31 = .ok (.ifCond .eq 11, 3) := by decide +kernel
theorem dX8_firstLeft_34 : decode cX8_firstLeft 34 = .ok (.aload_n 0, 1) := by decide +kernel
theorem dX8_firstLeft_35 : decode cX8_firstLeft 35 = .ok (.iload_n 3, 1) := by decide +kernel
theorem dX8_firstLeft_36 : decode cX8_firstLeft 36 = .ok (.invokevirtual 87, 3) := by decide +kernel
theorem dX8_firstLeft_39 : decode cX8_firstLeft 39 = .ok (.goto 4, 3) := by decide +kernel
theorem dX8_firstLeft_42 : decode cX8_firstLeft 42 = .ok (.iconst 0, 1) := by decide +kernel
theorem dX8_firstLeft_43 : decode cX8_firstLeft 43 = .ok (.istore 4, 2) := by decide +kernel
theorem dX8_firstLeft_45 : decode cX8_firstLeft 45 = .ok (.iload_n 1, 1) := by decide +kernel
theorem dX8_firstLeft_46 : decode cX8_firstLeft 46 = .ok (.ifCond .eq 15, 3) := by decide +kernel
theorem dX8_firstLeft_49 : decode cX8_firstLeft 49 = .ok (.iload_n 2, 1) := by decide +kernel
theorem dX8_firstLeft_50 : decode cX8_firstLeft 50 = .ok (.ifCond .lt 11, 3) := by decide +kernel
theorem dX8_firstLeft_53 : decode cX8_firstLeft 53 = .ok (.aload_n 0, 1) := by decide +kernel
theorem dX8_firstLeft_54 : decode cX8_firstLeft 54 = .ok (.iload_n 2, 1) := by decide +kernel
theorem dX8_firstLeft_55 : decode cX8_firstLeft 55 = .ok (.invokevirtual 87, 3) := by decide +kernel
theorem dX8_firstLeft_58 : decode cX8_firstLeft 58 = .ok (.goto 4, 3) := by decide +kernel
theorem dX8_firstLeft_61 : decode cX8_firstLeft 61 = .ok (.iconst 0, 1) := by decide +kernel
theorem dX8_firstLeft_62 : decode cX8_firstLeft 62 = .ok (.istore 5, 2) := by decide +kernel
theorem dX8_firstLeft_64 : decode cX8_firstLeft 64 = .ok (.iload_n 2, 1) := by decide +kernel
theorem dX8_firstLeft_65 : decode cX8_firstLeft 65 = .ok (.ifCond .lt 30, 3) := by decide +kernel
theorem dX8_firstLeft_68 : decode cX8_firstLeft 68 = .ok (.iload 4, 2) := by decide +kernel
theorem dX8_firstLeft_70 : decode cX8_firstLeft 70 = .ok (.iload 5, 2) := by decide +kernel
theorem dX8_firstLeft_72 : decode cX8_firstLeft 72 = .ok (.if_icmp .gt 23, 3) := by decide +kernel
theorem dX8_firstLeft_75 : decode cX8_firstLeft 75 = .ok (.iload 4, 2) := by decide +kernel
theorem dX8_firstLeft_77 : decode cX8_firstLeft 77 = .ok (.iload 5, 2) := by decide +kernel
theorem dX8_firstLeft_79 : decode cX8_firstLeft 79 = .ok (.if_icmp .ne 20, 3) := by decide +kernel
theorem dX8_firstLeft_82 : decode cX8_firstLeft 82 = .ok (.aload_n 0, 1) := by decide +kernel
theorem dX8_firstLeft_83 : decode cX8_firstLeft 83 = .ok (.iload_n 3, 1) := by decide +kernel
theorem dX8_firstLeft_84 : decode cX8_firstLeft 84 = .ok (.invokevirtual 70, 3) := by decide +kernel
theorem dX8_firstLeft_87 : decode cX8_firstLeft 87 = .ok (.aload_n 0, 1) := by decide +kernel
theorem dX8_firstLeft_88 : decode cX8_firstLeft 88 = .ok (.iload_n 2, 1) := by decide +kernel
theorem dX8_firstLeft_89 : decode cX8_firstLeft 89 = .ok (.invokevirtual 70, 3) := by decide +kernel
theorem dX8_firstLeft_92 : decode cX8_firstLeft 92 = .ok (.if_icmp .le 7, 3) := by decide +kernel
theorem dX8_firstLeft_95 : decode cX8_firstLeft 95 = .ok (.iconst 1, 1) := by decide +kernel
theorem dX8_firstLeft_96 : decode cX8_firstLeft 96 = .ok (.goto 4, 3) := by decide +kernel
theorem dX8_firstLeft_99 : decode cX8_firstLeft 99 = .ok (.iconst 0, 1) := by decide +kernel
theorem dX8_firstLeft_100 : decode cX8_firstLeft 100 = .ok (.istore 6, 2) := by decide +kernel
theorem dX8_firstLeft_102 : decode cX8_firstLeft 102 = .ok (.iload 6, 2) := by decide +kernel
theorem dX8_firstLeft_104 : decode cX8_firstLeft 104 = .ok (.ifCond .eq 7, 3) := by decide +kernel
theorem dX8_firstLeft_107 : decode cX8_firstLeft 107 = .ok (.iload_n 3, 1) := by decide +kernel
theorem dX8_firstLeft_108 : decode cX8_firstLeft 108 = .ok (.goto 4, 3) := by decide +kernel
theorem dX8_firstLeft_111 : decode cX8_firstLeft 111 = .ok (.iload_n 2, 1) := by decide +kernel
theorem dX8_firstLeft_112 : decode cX8_firstLeft 112 = .ok (.istore_n 2, 1) := by decide +kernel
theorem dX8_firstLeft_113 : decode cX8_firstLeft 113 = .ok (.iinc 3 1, 3) := by decide +kernel
theorem dX8_firstLeft_116 : decode cX8_firstLeft 116 = .ok (.goto (-112), 3) := by decide +kernel
theorem dX8_firstLeft_119 : decode cX8_firstLeft 119 = .ok (.iload_n 2, 1) := by decide +kernel
theorem dX8_firstLeft_120 : decode cX8_firstLeft 120 = .ok (.ireturn, 1) := by decide +kernel
theorem dX8_clearSeen_0 : decode cX8_clearSeen 0 = .ok (.iconst 0, 1) := by decide +kernel
theorem dX8_clearSeen_1 : decode cX8_clearSeen 1 = .ok (.istore_n 1, 1) := by decide +kernel
theorem dX8_clearSeen_2 : decode cX8_clearSeen 2 = .ok (.iload_n 1, 1) := by decide +kernel
theorem dX8_clearSeen_3 : decode cX8_clearSeen 3 = .ok (.bipush 30, 2) := by decide +kernel
theorem dX8_clearSeen_5 : decode cX8_clearSeen 5 = .ok (.if_icmp .ge 16, 3) := by decide +kernel
theorem dX8_clearSeen_8 : decode cX8_clearSeen 8 = .ok (.aload_n 0, 1) := by decide +kernel
theorem dX8_clearSeen_9 : decode cX8_clearSeen 9 = .ok (.getfield 47, 3) := by decide +kernel
theorem dX8_clearSeen_12 : decode cX8_clearSeen 12 = .ok (.iload_n 1, 1) := by decide +kernel
theorem dX8_clearSeen_13 : decode cX8_clearSeen 13 = .ok (.iconst 0, 1) := by decide +kernel
theorem dX8_clearSeen_14 : decode cX8_clearSeen 14 = .ok (.bastore, 1) := by decide +kernel
theorem dX8_clearSeen_15 : decode cX8_clearSeen 15 = .ok (.iinc 1 1, 3) := by decide +kernel
theorem dX8_clearSeen_18 : decode cX8_clearSeen 18 = .ok (.goto (-16), 3) := by decide +kernel
theorem dX8_clearSeen_21 : decode cX8_clearSeen 21 = .ok (.return_, 1) := by decide +kernel
theorem dX8_closing_0 : decode cX8_closing 0 = .ok (.aload_n 0, 1) := by decide +kernel
theorem dX8_closing_1 : decode cX8_closing 1 = .ok (.invokevirtual 93, 3) := by decide +kernel
theorem dX8_closing_4 : decode cX8_closing 4 = .ok (.iconst 0, 1) := by decide +kernel
theorem dX8_closing_5 : decode cX8_closing 5 = .ok (.istore_n 2, 1) := by decide +kernel
theorem dX8_closing_6 : decode cX8_closing 6 = .ok (.aload_n 0, 1) := by decide +kernel
theorem dX8_closing_7 : decode cX8_closing 7 = .ok (.iconst 1, 1) := by decide +kernel
theorem dX8_closing_8 : decode cX8_closing 8 = .ok (.invokevirtual 96, 3) := by decide +kernel
theorem dX8_closing_11 : decode cX8_closing 11 = .ok (.istore_n 3, 1) := by decide +kernel
theorem dX8_closing_12 : decode cX8_closing 12 = .ok (.iload_n 3, 1) := by decide +kernel
theorem dX8_closing_13 : decode cX8_closing 13 = .ok (.ifCond .lt 49, 3) := by decide +kernel
theorem dX8_closing_16 : decode cX8_closing 16 = .ok (.aload_n 0, 1) := by decide +kernel
theorem dX8_closing_17 : decode cX8_closing 17 = .ok (.getfield 47, 3) := by decide +kernel
theorem dX8_closing_20 : decode cX8_closing 20 = .ok (.iload_n 3, 1) := by decide +kernel
theorem dX8_closing_21 : decode cX8_closing 21 = .ok (.iconst 1, 1) := by decide +kernel
theorem dX8_closing_22 : decode cX8_closing 22 = .ok (.bastore, 1) := by decide +kernel
theorem dX8_closing_23 : decode cX8_closing 23 = .ok (.aload_n 0, 1) := by decide +kernel
theorem dX8_closing_24 : decode cX8_closing 24 = .ok (.iload_n 3, 1) := by decide +kernel
theorem dX8_closing_25 : decode cX8_closing 25 = .ok (.iload_n 2, 1) := by decide +kernel
theorem dX8_closing_26 : decode cX8_closing 26 = .ok (.invokevirtual 100, 3) := by decide +kernel
theorem dX8_closing_29 : decode cX8_closing 29 = .ok (.ifCond .eq 24, 3) := by decide +kernel
theorem dX8_closing_32 : decode cX8_closing 32 = .ok (.iload_n 2, 1) := by decide +kernel
theorem dX8_closing_33 : decode cX8_closing 33 = .ok (.iconst 1, 1) := by decide +kernel
theorem dX8_closing_34 : decode cX8_closing 34 = .ok (.iload_n 3, 1) := by decide +kernel
theorem dX8_closing_35 : decode cX8_closing 35 = .ok (.ishl, 1) := by decide +kernel
theorem dX8_closing_36 : decode cX8_closing 36 = .ok (.ior, 1) := by decide +kernel
theorem dX8_closing_37 : decode cX8_closing 37 = .ok (.istore_n 2, 1) := by decide +kernel
theorem dX8_closing_38 : decode cX8_closing 38 = .ok (.aload_n 0, 1) := by decide +kernel
theorem dX8_closing_39 : decode cX8_closing 39 = .ok (.iload_n 2, 1) := by decide +kernel
theorem dX8_closing_40 : decode cX8_closing 40 = .ok (.iload_n 1, 1) := by decide +kernel
theorem dX8_closing_41 : decode cX8_closing 41 = .ok (.invokevirtual 103, 3) := by decide +kernel
theorem dX8_closing_44 : decode cX8_closing 44 = .ok (.iload_n 2, 1) := by decide +kernel
theorem dX8_closing_45 : decode cX8_closing 45 = .ok (.invokestatic 106, 3) := by decide +kernel
theorem dX8_closing_48 : decode cX8_closing 48 = .ok (.if_icmp .ge 5, 3) := by decide +kernel
theorem dX8_closing_51 : decode cX8_closing 51 = .ok (.iload_n 2, 1) := by decide +kernel
theorem dX8_closing_52 : decode cX8_closing 52 = .ok (.ireturn, 1) := by decide +kernel
theorem dX8_closing_53 : decode cX8_closing 53 = .ok (.aload_n 0, 1) := by decide +kernel
theorem dX8_closing_54 : decode cX8_closing 54 = .ok (.iconst 1, 1) := by decide +kernel
theorem dX8_closing_55 : decode cX8_closing 55 = .ok (.invokevirtual 96, 3) := by decide +kernel
theorem dX8_closing_58 : decode cX8_closing 58 = .ok (.istore_n 3, 1) := by decide +kernel
theorem dX8_closing_59 : decode cX8_closing 59 = .ok (.goto (-47), 3) := by decide +kernel
theorem dX8_closing_62 : decode cX8_closing 62 = .ok (.iconst 0, 1) := by decide +kernel
theorem dX8_closing_63 : decode cX8_closing 63 = .ok (.ireturn, 1) := by decide +kernel
theorem dX8_clique_0 : decode cX8_clique 0 = .ok (.aload_n 0, 1) := by decide +kernel
theorem dX8_clique_1 : decode cX8_clique 1 = .ok (.invokevirtual 109, 3) := by decide +kernel
theorem dX8_clique_4 : decode cX8_clique 4 = .ok (.aload_n 0, 1) := by decide +kernel
theorem dX8_clique_5 : decode cX8_clique 5 = .ok (.invokevirtual 93, 3) := by decide +kernel
theorem dX8_clique_8 : decode cX8_clique 8 = .ok (.iconst 0, 1) := by decide +kernel
theorem dX8_clique_9 : decode cX8_clique 9 = .ok (.istore_n 1, 1) := by decide +kernel
theorem dX8_clique_10 : decode cX8_clique 10 = .ok (.aload_n 0, 1) := by decide +kernel
theorem dX8_clique_11 : decode cX8_clique 11 = .ok (.iconst 0, 1) := by decide +kernel
theorem dX8_clique_12 : decode cX8_clique 12 = .ok (.invokevirtual 96, 3) := by decide +kernel
theorem dX8_clique_15 : decode cX8_clique 15 = .ok (.istore_n 2, 1) := by decide +kernel
theorem dX8_clique_16 : decode cX8_clique 16 = .ok (.iload_n 2, 1) := by decide +kernel
theorem dX8_clique_17 : decode cX8_clique 17 = .ok (.ifCond .lt 38, 3) := by decide +kernel
theorem dX8_clique_20 : decode cX8_clique 20 = .ok (.aload_n 0, 1) := by decide +kernel
theorem dX8_clique_21 : decode cX8_clique 21 = .ok (.getfield 47, 3) := by decide +kernel
theorem dX8_clique_24 : decode cX8_clique 24 = .ok (.iload_n 2, 1) := by decide +kernel
theorem dX8_clique_25 : decode cX8_clique 25 = .ok (.iconst 1, 1) := by decide +kernel
theorem dX8_clique_26 : decode cX8_clique 26 = .ok (.bastore, 1) := by decide +kernel
theorem dX8_clique_27 : decode cX8_clique 27 = .ok (.aload_n 0, 1) := by decide +kernel
theorem dX8_clique_28 : decode cX8_clique 28 = .ok (.iload_n 2, 1) := by decide +kernel
theorem dX8_clique_29 : decode cX8_clique 29 = .ok (.iload_n 1, 1) := by decide +kernel
theorem dX8_clique_30 : decode cX8_clique 30 = .ok (.invokevirtual 100, 3) := by decide +kernel
theorem dX8_clique_33 : decode cX8_clique 33 = .ok (.ifCond .eq 11, 3) := by decide +kernel
theorem dX8_clique_36 : decode cX8_clique 36 = .ok (.iload_n 1, 1) := by decide +kernel
theorem dX8_clique_37 : decode cX8_clique 37 = .ok (.iconst 1, 1) := by decide +kernel
theorem dX8_clique_38 : decode cX8_clique 38 = .ok (.iload_n 2, 1) := by decide +kernel
theorem dX8_clique_39 : decode cX8_clique 39 = .ok (.ishl, 1) := by decide +kernel
theorem dX8_clique_40 : decode cX8_clique 40 = .ok (.ior, 1) := by decide +kernel
theorem dX8_clique_41 : decode cX8_clique 41 = .ok (.goto 4, 3) := by decide +kernel
theorem dX8_clique_44 : decode cX8_clique 44 = .ok (.iload_n 1, 1) := by decide +kernel
theorem dX8_clique_45 : decode cX8_clique 45 = .ok (.istore_n 1, 1) := by decide +kernel
theorem dX8_clique_46 : decode cX8_clique 46 = .ok (.aload_n 0, 1) := by decide +kernel
theorem dX8_clique_47 : decode cX8_clique 47 = .ok (.iconst 0, 1) := by decide +kernel
theorem dX8_clique_48 : decode cX8_clique 48 = .ok (.invokevirtual 96, 3) := by decide +kernel
theorem dX8_clique_51 : decode cX8_clique 51 = .ok (.istore_n 2, 1) := by decide +kernel
theorem dX8_clique_52 : decode cX8_clique 52 = .ok (.goto (-36), 3) := by decide +kernel
theorem dX8_clique_55 : decode cX8_clique 55 = .ok (.iload_n 1, 1) := by decide +kernel
theorem dX8_clique_56 : decode cX8_clique 56 = .ok (.ireturn, 1) := by decide +kernel
theorem dX8_first_0 : decode cX8_first 0 = .ok (.aload_n 0, 1) := by decide +kernel
theorem dX8_first_1 : decode cX8_first 1 = .ok (.invokevirtual 109, 3) := by decide +kernel
theorem dX8_first_4 : decode cX8_first 4 = .ok (.aload_n 0, 1) := by decide +kernel
theorem dX8_first_5 : decode cX8_first 5 = .ok (.invokevirtual 112, 3) := by decide +kernel
theorem dX8_first_8 : decode cX8_first 8 = .ok (.istore_n 1, 1) := by decide +kernel
theorem dX8_first_9 : decode cX8_first 9 = .ok (.iload_n 1, 1) := by decide +kernel
theorem dX8_first_10 : decode cX8_first 10 = .ok (.ifCond .lt 35, 3) := by decide +kernel
theorem dX8_first_13 : decode cX8_first 13 = .ok (.iconst 0, 1) := by decide +kernel
theorem dX8_first_14 : decode cX8_first 14 = .ok (.istore_n 2, 1) := by decide +kernel
theorem dX8_first_15 : decode cX8_first 15 = .ok (.aload_n 0, 1) := by decide +kernel
theorem dX8_first_16 : decode cX8_first 16 = .ok (.iload_n 1, 1) := by decide +kernel
theorem dX8_first_17 : decode cX8_first 17 = .ok (.iload_n 2, 1) := by decide +kernel
theorem dX8_first_18 : decode cX8_first 18 = .ok (.invokevirtual 84, 3) := by decide +kernel
theorem dX8_first_21 : decode cX8_first 21 = .ok (.ifCond .lt 9, 3) := by decide +kernel
theorem dX8_first_24 : decode cX8_first 24 = .ok (.iinc 2 1, 3) := by decide +kernel
theorem dX8_first_27 : decode cX8_first 27 = .ok (.goto (-12), 3) := by decide +kernel
theorem dX8_first_30 : decode cX8_first 30 = .ok (.aload_n 0, 1) := by decide +kernel
theorem dX8_first_31 : decode cX8_first 31 = .ok (.getfield 16, 3) := by decide +kernel
theorem dX8_first_34 : decode cX8_first 34 = .ok (.iload_n 1, 1) := by decide +kernel
theorem dX8_first_35 : decode cX8_first 35 = .ok (.iload_n 2, 1) := by decide +kernel
theorem dX8_first_36 : decode cX8_first 36 = .ok (.iastore, 1) := by decide +kernel
theorem dX8_first_37 : decode cX8_first 37 = .ok (.aload_n 0, 1) := by decide +kernel
theorem dX8_first_38 : decode cX8_first 38 = .ok (.invokevirtual 112, 3) := by decide +kernel
theorem dX8_first_41 : decode cX8_first 41 = .ok (.istore_n 1, 1) := by decide +kernel
theorem dX8_first_42 : decode cX8_first 42 = .ok (.goto (-33), 3) := by decide +kernel
theorem dX8_first_45 : decode cX8_first 45 = .ok (.aload_n 0, 1) := by decide +kernel
theorem dX8_first_46 : decode cX8_first 46 = .ok (.invokevirtual 115, 3) := by decide +kernel
theorem dX8_first_49 : decode cX8_first 49 = .ok (.ireturn, 1) := by decide +kernel
theorem dX8_write_0 : decode cX8_write 0 = .ok (.aload_n 0, 1) := by decide +kernel
theorem dX8_write_1 : decode cX8_write 1 = .ok (.getfield 118, 3) := by decide +kernel
theorem dX8_write_4 : decode cX8_write 4 = .ok (.sipush 3000, 3) := by decide +kernel
theorem dX8_write_7 : decode cX8_write 7 = .ok (.if_icmp .ne 5, 3) := by decide +kernel
theorem dX8_write_10 : decode cX8_write 10 = .ok (.iconst 0, 1) := by decide +kernel
theorem dX8_write_11 : decode cX8_write 11 = .ok (.ireturn, 1) := by decide +kernel
theorem dX8_write_12 : decode cX8_write 12 = .ok (.aload_n 0, 1) := by decide +kernel
theorem dX8_write_13 : decode cX8_write 13 = .ok (.getfield 35, 3) := by decide +kernel
theorem dX8_write_16 : decode cX8_write 16 = .ok (.iconst 2, 1) := by decide +kernel
theorem dX8_write_17 : decode cX8_write 17 = .ok (.aload_n 0, 1) := by decide +kernel
theorem dX8_write_18 : decode cX8_write 18 = .ok (.getfield 118, 3) := by decide +kernel
theorem dX8_write_21 : decode cX8_write 21 = .ok (.imul, 1) := by decide +kernel
theorem dX8_write_22 : decode cX8_write 22 = .ok (.iload_n 1, 1) := by decide +kernel
theorem dX8_write_23 : decode cX8_write 23 = .ok (.iastore, 1) := by decide +kernel
theorem dX8_write_24 : decode cX8_write 24 = .ok (.aload_n 0, 1) := by decide +kernel
theorem dX8_write_25 : decode cX8_write 25 = .ok (.getfield 35, 3) := by decide +kernel
theorem dX8_write_28 : decode cX8_write 28 = .ok (.iconst 2, 1) := by decide +kernel
theorem dX8_write_29 : decode cX8_write 29 = .ok (.aload_n 0, 1) := by decide +kernel
theorem dX8_write_30 : decode cX8_write 30 = .ok (.getfield 118, 3) := by decide +kernel
theorem dX8_write_33 : decode cX8_write 33 = .ok (.imul, 1) := by decide +kernel
theorem dX8_write_34 : decode cX8_write 34 = .ok (.iconst 1, 1) := by decide +kernel
theorem dX8_write_35 : decode cX8_write 35 = .ok (.iadd, 1) := by decide +kernel
theorem dX8_write_36 : decode cX8_write 36 = .ok (.iload_n 2, 1) := by decide +kernel
theorem dX8_write_37 : decode cX8_write 37 = .ok (.iastore, 1) := by decide +kernel
theorem dX8_write_38 : decode cX8_write 38 = .ok (.aload_n 0, 1) := by decide +kernel
theorem dX8_write_39 : decode cX8_write 39 = .ok (.dup, 1) := by decide +kernel
theorem dX8_write_40 : decode cX8_write 40 = .ok (.getfield 118, 3) := by decide +kernel
theorem dX8_write_43 : decode cX8_write 43 = .ok (.iconst 1, 1) := by decide +kernel
theorem dX8_write_44 : decode cX8_write 44 = .ok (.iadd, 1) := by decide +kernel
theorem dX8_write_45 : decode cX8_write 45 = .ok (.putfield 118, 3) := by decide +kernel
theorem dX8_write_48 : decode cX8_write 48 = .ok (.iconst 1, 1) := by decide +kernel
theorem dX8_write_49 : decode cX8_write 49 = .ok (.ireturn, 1) := by decide +kernel
theorem dX8_enter_0 : decode cX8_enter 0 = .ok (.aload_n 0, 1) := by decide +kernel
theorem dX8_enter_1 : decode cX8_enter 1 = .ok (.getfield 26, 3) := by decide +kernel
theorem dX8_enter_4 : decode cX8_enter 4 = .ok (.aload_n 0, 1) := by decide +kernel
theorem dX8_enter_5 : decode cX8_enter 5 = .ok (.getfield 121, 3) := by decide +kernel
theorem dX8_enter_8 : decode cX8_enter 8 = .ok (.iload_n 1, 1) := by decide +kernel
theorem dX8_enter_9 : decode cX8_enter 9 = .ok (.iastore, 1) := by decide +kernel
theorem dX8_enter_10 : decode cX8_enter 10 = .ok (.aload_n 0, 1) := by decide +kernel
theorem dX8_enter_11 : decode cX8_enter 11 = .ok (.getfield 29, 3) := by decide +kernel
theorem dX8_enter_14 : decode cX8_enter 14 = .ok (.aload_n 0, 1) := by decide +kernel
theorem dX8_enter_15 : decode cX8_enter 15 = .ok (.getfield 121, 3) := by decide +kernel
theorem dX8_enter_18 : decode cX8_enter 18 = .ok (.iconst 0, 1) := by decide +kernel
theorem dX8_enter_19 : decode cX8_enter 19 = .ok (.iastore, 1) := by decide +kernel
theorem dX8_enter_20 : decode cX8_enter 20 = .ok (.aload_n 0, 1) := by decide +kernel
theorem dX8_enter_21 : decode cX8_enter 21 = .ok (.getfield 32, 3) := by decide +kernel
theorem dX8_enter_24 : decode cX8_enter 24 = .ok (.aload_n 0, 1) := by decide +kernel
theorem dX8_enter_25 : decode cX8_enter 25 = .ok (.getfield 121, 3) := by decide +kernel
theorem dX8_enter_28 : decode cX8_enter 28 = .ok (.aload_n 0, 1) := by decide +kernel
theorem dX8_enter_29 : decode cX8_enter 29 = .ok (.invokevirtual 115, 3) := by decide +kernel
theorem dX8_enter_32 : decode cX8_enter 32 = .ok (.iastore, 1) := by decide +kernel
theorem dX8_enter_33 : decode cX8_enter 33 = .ok (.aload_n 0, 1) := by decide +kernel
theorem dX8_enter_34 : decode cX8_enter 34 = .ok (.dup, 1) := by decide +kernel
theorem dX8_enter_35 : decode cX8_enter 35 = .ok (.getfield 121, 3) := by decide +kernel
theorem dX8_enter_38 : decode cX8_enter 38 = .ok (.iconst 1, 1) := by decide +kernel
theorem dX8_enter_39 : decode cX8_enter 39 = .ok (.iadd, 1) := by decide +kernel
theorem dX8_enter_40 : decode cX8_enter 40 = .ok (.putfield 121, 3) := by decide +kernel
theorem dX8_enter_43 : decode cX8_enter 43 = .ok (.return_, 1) := by decide +kernel
theorem dX8_come_0 : decode cX8_come 0 = .ok (.aload_n 0, 1) := by decide +kernel
theorem dX8_come_1 : decode cX8_come 1 = .ok (.invokevirtual 112, 3) := by decide +kernel
theorem dX8_come_4 : decode cX8_come 4 = .ok (.istore_n 2, 1) := by decide +kernel
theorem dX8_come_5 : decode cX8_come 5 = .ok (.iload_n 2, 1) := by decide +kernel
theorem dX8_come_6 : decode cX8_come 6 = .ok (.ifCond .ge 5, 3) := by decide +kernel
theorem dX8_come_9 : decode cX8_come 9 = .ok (.iconst 1, 1) := by decide +kernel
theorem dX8_come_10 : decode cX8_come 10 = .ok (.ireturn, 1) := by decide +kernel
theorem dX8_come_11 : decode cX8_come 11 = .ok (.aload_n 0, 1) := by decide +kernel
theorem dX8_come_12 : decode cX8_come 12 = .ok (.iload_n 1, 1) := by decide +kernel
theorem dX8_come_13 : decode cX8_come 13 = .ok (.invokevirtual 124, 3) := by decide +kernel
theorem dX8_come_16 : decode cX8_come 16 = .ok (.istore_n 3, 1) := by decide +kernel
theorem dX8_come_17 : decode cX8_come 17 = .ok (.iload_n 3, 1) := by decide +kernel
theorem dX8_come_18 : decode cX8_come 18 = .ok (.ifCond .eq 19, 3) := by decide +kernel
theorem dX8_come_21 : decode cX8_come 21 = .ok (.aload_n 0, 1) := by decide +kernel
theorem dX8_come_22 : decode cX8_come 22 = .ok (.iconst 4, 1) := by decide +kernel
theorem dX8_come_23 : decode cX8_come 23 = .ok (.iload_n 3, 1) := by decide +kernel
theorem dX8_come_24 : decode cX8_come 24 = .ok (.invokevirtual 127, 3) := by decide +kernel
theorem dX8_come_27 : decode cX8_come 27 = .ok (.ifCond .eq 7, 3) := by decide +kernel
theorem dX8_come_30 : decode cX8_come 30 = .ok (.iconst 0, 1) := by decide +kernel
theorem dX8_come_31 : decode cX8_come 31 = .ok (.goto 5, 3) := by decide +kernel
theorem dX8_come_34 : decode cX8_come 34 = .ok (.bipush (-3), 2) := by decide +kernel
theorem dX8_come_36 : decode cX8_come 36 = .ok (.ireturn, 1) := by decide +kernel
theorem dX8_come_37 : decode cX8_come 37 = .ok (.aload_n 0, 1) := by decide +kernel
theorem dX8_come_38 : decode cX8_come 38 = .ok (.iconst 1, 1) := by decide +kernel
theorem dX8_come_39 : decode cX8_come 39 = .ok (.iload_n 2, 1) := by decide +kernel
theorem dX8_come_40 : decode cX8_come 40 = .ok (.invokevirtual 127, 3) := by decide +kernel
theorem dX8_come_43 : decode cX8_come 43 = .ok (.ifCond .ne 6, 3) := by decide +kernel
theorem dX8_come_46 : decode cX8_come 46 = .ok (.bipush (-3), 2) := by decide +kernel
theorem dX8_come_48 : decode cX8_come 48 = .ok (.ireturn, 1) := by decide +kernel
theorem dX8_come_49 : decode cX8_come 49 = .ok (.aload_n 0, 1) := by decide +kernel
theorem dX8_come_50 : decode cX8_come 50 = .ok (.iload_n 2, 1) := by decide +kernel
theorem dX8_come_51 : decode cX8_come 51 = .ok (.invokevirtual 130, 3) := by decide +kernel
theorem dX8_come_54 : decode cX8_come 54 = .ok (.iconst 0, 1) := by decide +kernel
theorem dX8_come_55 : decode cX8_come 55 = .ok (.ireturn, 1) := by decide +kernel
theorem dX8_goOn_0 : decode cX8_goOn 0 = .ok (.aload_n 0, 1) := by decide +kernel
theorem dX8_goOn_1 : decode cX8_goOn 1 = .ok (.getfield 121, 3) := by decide +kernel
theorem dX8_goOn_4 : decode cX8_goOn 4 = .ok (.iconst 1, 1) := by decide +kernel
theorem dX8_goOn_5 : decode cX8_goOn 5 = .ok (.isub, 1) := by decide +kernel
theorem dX8_goOn_6 : decode cX8_goOn 6 = .ok (.istore_n 2, 1) := by decide +kernel
theorem dX8_goOn_7 : decode cX8_goOn 7 = .ok (.aload_n 0, 1) := by decide +kernel
theorem dX8_goOn_8 : decode cX8_goOn 8 = .ok (.getfield 26, 3) := by decide +kernel
theorem dX8_goOn_11 : decode cX8_goOn 11 = .ok (.iload_n 2, 1) := by decide +kernel
theorem dX8_goOn_12 : decode cX8_goOn 12 = .ok (.iaload, 1) := by decide +kernel
theorem dX8_goOn_13 : decode cX8_goOn 13 = .ok (.istore_n 3, 1) := by decide +kernel
theorem dX8_goOn_14 : decode cX8_goOn 14 = .ok (.aload_n 0, 1) := by decide +kernel
theorem dX8_goOn_15 : decode cX8_goOn 15 = .ok (.getfield 29, 3) := by decide +kernel
theorem dX8_goOn_18 : decode cX8_goOn 18 = .ok (.iload_n 2, 1) := by decide +kernel
theorem dX8_goOn_19 : decode cX8_goOn 19 = .ok (.iaload, 1) := by decide +kernel
theorem dX8_goOn_20 : decode cX8_goOn 20 = .ok (.istore 4, 2) := by decide +kernel
theorem dX8_goOn_22 : decode cX8_goOn 22 = .ok (.aload_n 0, 1) := by decide +kernel
theorem dX8_goOn_23 : decode cX8_goOn 23 = .ok (.getfield 16, 3) := by decide +kernel
theorem dX8_goOn_26 : decode cX8_goOn 26 = .ok (.iload_n 3, 1) := by decide +kernel
theorem dX8_goOn_27 : decode cX8_goOn 27 = .ok (.iconst (-1), 1) := by decide +kernel
theorem dX8_goOn_28 : decode cX8_goOn 28 = .ok (.iastore, 1) := by decide +kernel
theorem dX8_goOn_29 : decode cX8_goOn 29 = .ok (.iload 4, 2) := by decide +kernel
theorem dX8_goOn_31 : decode cX8_goOn 31 = .ok (.iload_n 1, 1) := by decide +kernel
theorem dX8_goOn_32 : decode cX8_goOn 32 = .ok (.if_icmp .ge 14, 3) := by decide +kernel
theorem dX8_goOn_35 : decode cX8_goOn 35 = .ok (.iload 4, 2) := by decide +kernel
theorem dX8_goOn_37 : decode cX8_goOn 37 = .ok (.aload_n 0, 1) := by decide +kernel
theorem dX8_goOn_38 : decode cX8_goOn 38 = .ok (.getfield 32, 3) := by decide +kernel
theorem dX8_goOn_41 : decode cX8_goOn 41 = .ok (.iload_n 2, 1) := by decide +kernel
theorem dX8_goOn_42 : decode cX8_goOn 42 = .ok (.iaload, 1) := by decide +kernel
theorem dX8_goOn_43 : decode cX8_goOn 43 = .ok (.if_icmp .le 15, 3) := by decide +kernel
theorem dX8_goOn_46 : decode cX8_goOn 46 = .ok (.aload_n 0, 1) := by decide +kernel
theorem dX8_goOn_47 : decode cX8_goOn 47 = .ok (.dup, 1) := by decide +kernel
theorem dX8_goOn_48 : decode cX8_goOn 48 = .ok (.getfield 121, 3) := by decide +kernel
theorem dX8_goOn_51 : decode cX8_goOn 51 = .ok (.iconst 1, 1) := by decide +kernel
theorem dX8_goOn_52 : decode cX8_goOn 52 = .ok (.isub, 1) := by decide +kernel
theorem dX8_goOn_53 : decode cX8_goOn 53 = .ok (.putfield 121, 3) := by decide +kernel
theorem dX8_goOn_56 : decode cX8_goOn 56 = .ok (.iconst 0, 1) := by decide +kernel
theorem dX8_goOn_57 : decode cX8_goOn 57 = .ok (.ireturn, 1) := by decide +kernel
theorem dX8_goOn_58 : decode cX8_goOn 58 = .ok (.aload_n 0, 1) := by decide +kernel
theorem dX8_goOn_59 : decode cX8_goOn 59 = .ok (.getfield 29, 3) := by decide +kernel
theorem dX8_goOn_62 : decode cX8_goOn 62 = .ok (.iload_n 2, 1) := by decide +kernel
theorem dX8_goOn_63 : decode cX8_goOn 63 = .ok (.dup2, 1) := by decide +kernel
theorem dX8_goOn_64 : decode cX8_goOn 64 = .ok (.iaload, 1) := by decide +kernel
theorem dX8_goOn_65 : decode cX8_goOn 65 = .ok (.iconst 1, 1) := by decide +kernel
theorem dX8_goOn_66 : decode cX8_goOn 66 = .ok (.iadd, 1) := by decide +kernel
theorem dX8_goOn_67 : decode cX8_goOn 67 = .ok (.iastore, 1) := by decide +kernel
theorem dX8_goOn_68 : decode cX8_goOn 68 = .ok (.aload_n 0, 1) := by decide +kernel
theorem dX8_goOn_69 : decode cX8_goOn 69 = .ok (.iload_n 3, 1) := by decide +kernel
theorem dX8_goOn_70 : decode cX8_goOn 70 = .ok (.iload 4, 2) := by decide +kernel
theorem dX8_goOn_72 : decode cX8_goOn 72 = .ok (.invokevirtual 84, 3) := by decide +kernel
theorem dX8_goOn_75 : decode cX8_goOn 75 = .ok (.istore 5, 2) := by decide +kernel
theorem dX8_goOn_77 : decode cX8_goOn 77 = .ok (.iload 5, 2) := by decide +kernel
theorem dX8_goOn_79 : decode cX8_goOn 79 = .ok (.ifCond .lt 20, 3) := by decide +kernel
theorem dX8_goOn_82 : decode cX8_goOn 82 = .ok (.aload_n 0, 1) := by decide +kernel
theorem dX8_goOn_83 : decode cX8_goOn 83 = .ok (.iconst 2, 1) := by decide +kernel
theorem dX8_goOn_84 : decode cX8_goOn 84 = .ok (.iload 5, 2) := by decide +kernel
theorem dX8_goOn_86 : decode cX8_goOn 86 = .ok (.invokevirtual 127, 3) := by decide +kernel
theorem dX8_goOn_89 : decode cX8_goOn 89 = .ok (.ifCond .eq 7, 3) := by decide +kernel
theorem dX8_goOn_92 : decode cX8_goOn 92 = .ok (.iconst 0, 1) := by decide +kernel
theorem dX8_goOn_93 : decode cX8_goOn 93 = .ok (.goto 5, 3) := by decide +kernel
theorem dX8_goOn_96 : decode cX8_goOn 96 = .ok (.bipush (-3), 2) := by decide +kernel
theorem dX8_goOn_98 : decode cX8_goOn 98 = .ok (.ireturn, 1) := by decide +kernel
theorem dX8_goOn_99 : decode cX8_goOn 99 = .ok (.aload_n 0, 1) := by decide +kernel
theorem dX8_goOn_100 : decode cX8_goOn 100 = .ok (.iconst 3, 1) := by decide +kernel
theorem dX8_goOn_101 : decode cX8_goOn 101 = .ok (.iload 4, 2) := by decide +kernel
theorem dX8_goOn_103 : decode cX8_goOn 103 = .ok (.invokevirtual 127, 3) := by decide +kernel
theorem dX8_goOn_106 : decode cX8_goOn 106 = .ok (.ifCond .ne 6, 3) := by decide +kernel
theorem dX8_goOn_109 : decode cX8_goOn 109 = .ok (.bipush (-3), 2) := by decide +kernel
theorem dX8_goOn_111 : decode cX8_goOn 111 = .ok (.ireturn, 1) := by decide +kernel
theorem dX8_goOn_112 : decode cX8_goOn 112 = .ok (.aload_n 0, 1) := by decide +kernel
theorem dX8_goOn_113 : decode cX8_goOn 113 = .ok (.getfield 16, 3) := by decide +kernel
theorem dX8_goOn_116 : decode cX8_goOn 116 = .ok (.iload_n 3, 1) := by decide +kernel
theorem dX8_goOn_117 : decode cX8_goOn 117 = .ok (.iload 4, 2) := by decide +kernel
theorem dX8_goOn_119 : decode cX8_goOn 119 = .ok (.iastore, 1) := by decide +kernel
theorem dX8_goOn_120 : decode cX8_goOn 120 = .ok (.iconst 1, 1) := by decide +kernel
theorem dX8_goOn_121 : decode cX8_goOn 121 = .ok (.ireturn, 1) := by decide +kernel
theorem dX8_seek_0 : decode cX8_seek 0 = .ok (.aload_n 0, 1) := by decide +kernel
theorem dX8_seek_1 : decode cX8_seek 1 = .ok (.invokevirtual 109, 3) := by decide +kernel
theorem dX8_seek_4 : decode cX8_seek 4 = .ok (.aload_n 0, 1) := by decide +kernel
theorem dX8_seek_5 : decode cX8_seek 5 = .ok (.iconst 0, 1) := by decide +kernel
theorem dX8_seek_6 : decode cX8_seek 6 = .ok (.putfield 118, 3) := by decide +kernel
theorem dX8_seek_9 : decode cX8_seek 9 = .ok (.aload_n 0, 1) := by decide +kernel
theorem dX8_seek_10 : decode cX8_seek 10 = .ok (.iconst 0, 1) := by decide +kernel
theorem dX8_seek_11 : decode cX8_seek 11 = .ok (.putfield 121, 3) := by decide +kernel
theorem dX8_seek_14 : decode cX8_seek 14 = .ok (.aload_n 0, 1) := by decide +kernel
theorem dX8_seek_15 : decode cX8_seek 15 = .ok (.iload_n 1, 1) := by decide +kernel
theorem dX8_seek_16 : decode cX8_seek 16 = .ok (.invokevirtual 134, 3) := by decide +kernel
theorem dX8_seek_19 : decode cX8_seek 19 = .ok (.istore_n 2, 1) := by decide +kernel
theorem dX8_seek_20 : decode cX8_seek 20 = .ok (.iload_n 2, 1) := by decide +kernel
theorem dX8_seek_21 : decode cX8_seek 21 = .ok (.ifCond .ne 34, 3) := by decide +kernel
theorem dX8_seek_24 : decode cX8_seek 24 = .ok (.aload_n 0, 1) := by decide +kernel
theorem dX8_seek_25 : decode cX8_seek 25 = .ok (.getfield 121, 3) := by decide +kernel
theorem dX8_seek_28 : decode cX8_seek 28 = .ok (.ifCond .le 27, 3) := by decide +kernel
theorem dX8_seek_31 : decode cX8_seek 31 = .ok (.aload_n 0, 1) := by decide +kernel
theorem dX8_seek_32 : decode cX8_seek 32 = .ok (.iload_n 1, 1) := by decide +kernel
theorem dX8_seek_33 : decode cX8_seek 33 = .ok (.invokevirtual 137, 3) := by decide +kernel
theorem dX8_seek_36 : decode cX8_seek 36 = .ok (.istore_n 2, 1) := by decide +kernel
theorem dX8_seek_37 : decode cX8_seek 37 = .ok (.iload_n 2, 1) := by decide +kernel
theorem dX8_seek_38 : decode cX8_seek 38 = .ok (.iconst 1, 1) := by decide +kernel
theorem dX8_seek_39 : decode cX8_seek 39 = .ok (.if_icmp .ne 11, 3) := by decide +kernel
theorem dX8_seek_42 : decode cX8_seek 42 = .ok (.aload_n 0, 1) := by decide +kernel
theorem dX8_seek_43 : decode cX8_seek 43 = .ok (.iload_n 1, 1) := by decide +kernel
theorem dX8_seek_44 : decode cX8_seek 44 = .ok (.invokevirtual 134, 3) := by decide +kernel
theorem dX8_seek_47 : decode cX8_seek 47 = .ok (.goto 4, 3) := by decide +kernel
theorem dX8_seek_50 : decode cX8_seek 50 = .ok (.iload_n 2, 1) := by decide +kernel
theorem dX8_seek_51 : decode cX8_seek 51 = .ok (.istore_n 2, 1) := by decide +kernel
theorem dX8_seek_52 : decode cX8_seek 52 = .ok (.goto (-32), 3) := by decide +kernel
theorem dX8_seek_55 : decode cX8_seek 55 = .ok (.iload_n 2, 1) := by decide +kernel
theorem dX8_seek_56 : decode cX8_seek 56 = .ok (.ireturn, 1) := by decide +kernel
theorem dX8_countWork_0 : decode cX8_countWork 0 = .ok (.aload_n 0, 1) := by decide +kernel
theorem dX8_countWork_1 : decode cX8_countWork 1 = .ok (.getfield 44, 3) := by decide +kernel
theorem dX8_countWork_4 : decode cX8_countWork 4 = .ok (.iconst 0, 1) := by decide +kernel
theorem dX8_countWork_5 : decode cX8_countWork 5 = .ok (.dup2, 1) := by decide +kernel
theorem dX8_countWork_6 : decode cX8_countWork 6 = .ok (.iaload, 1) := by decide +kernel
theorem dX8_countWork_7 : decode cX8_countWork 7 = .ok (.iconst 1, 1) := by decide +kernel
theorem dX8_countWork_8 : decode cX8_countWork 8 = .ok (.iadd, 1) := by decide +kernel
