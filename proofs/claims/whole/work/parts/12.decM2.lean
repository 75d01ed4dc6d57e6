/-! decode -/
theorem dX11_ever_0 : decode cX11_ever 0 = .ok (.aload_n 0, 1) := by decide +kernel
theorem dX11_ever_1 : decode cX11_ever 1 = .ok (.iload_n 1, 1) := by decide +kernel
theorem dX11_ever_2 : decode cX11_ever 2 = .ok (.invokevirtual 257, 3) := by decide +kernel
theorem dX11_ever_5 : decode cX11_ever 5 = .ok (.ifCond .eq 10, 3) := by decide +kernel
theorem dX11_ever_8 : decode cX11_ever 8 = .ok (.iload_n 2, 1) := by decide +kernel
theorem dX11_ever_9 : decode cX11_ever 9 = .ok (.invokestatic 345, 3) := by decide +kernel
theorem dX11_ever_12 : decode cX11_ever 12 = .ok (.ifCond .ne 5, 3) := by decide +kernel
theorem dX11_ever_15 : decode cX11_ever 15 = .ok (.iconst (-1), 1) := by decide +kernel
theorem dX11_ever_16 : decode cX11_ever 16 = .ok (.ireturn, 1) := by decide +kernel
theorem dX11_ever_17 : decode cX11_ever 17 = .ok (.aload_n 0, 1) := by decide +kernel
theorem dX11_ever_18 : decode cX11_ever 18 = .ok (.iload_n 1, 1) := by decide +kernel
theorem dX11_ever_19 : decode cX11_ever 19 = .ok (.invokevirtual 348, 3) := by decide +kernel
theorem dX11_ever_22 : decode cX11_ever 22 = .ok (.iconst 2, 1) := by decide +kernel
theorem dX11_ever_23 : decode cX11_ever 23 = .ok (.istore_n 3, 1) := by decide +kernel
theorem dX11_ever_24 : decode cX11_ever 24 = .ok (.iload_n 3, 1) := by decide +kernel
theorem dX11_ever_25 : decode cX11_ever 25 = .ok (.bipush 12, 2) := by decide +kernel
theorem dX11_ever_27 : decode cX11_ever 27 = .ok (.if_icmp .ge 20, 3) := by decide +kernel
theorem dX11_ever_30 : decode cX11_ever 30 = .ok (.aload_n 0, 1) := by decide +kernel
theorem dX11_ever_31 : decode cX11_ever 31 = .ok (.iload_n 2, 1) := by decide +kernel
theorem dX11_ever_32 : decode cX11_ever 32 = .ok (.iload_n 3, 1) := by decide +kernel
theorem dX11_ever_33 : decode cX11_ever 33 = .ok (.invokevirtual 356, 3) := by decide +kernel
theorem dX11_ever_36 : decode cX11_ever 36 = .ok (.ifCond .eq 5, 3) := by decide +kernel
theorem dX11_ever_39 : decode cX11_ever 39 = .ok (.iload_n 3, 1) := by decide +kernel
theorem dX11_ever_40 : decode cX11_ever 40 = .ok (.ireturn, 1) := by decide +kernel
theorem dX11_ever_41 : decode cX11_ever 41 = .ok (.iinc 3 1, 3) := by decide +kernel
theorem dX11_ever_44 : decode cX11_ever 44 = .ok (.goto (-20), 3) := by decide +kernel
theorem dX11_ever_47 : decode cX11_ever 47 = .ok (.iconst (-1), 1) := by decide +kernel
theorem dX11_ever_48 : decode cX11_ever 48 = .ok (.ireturn, 1) := by decide +kernel
theorem dX11_edge_0 : decode cX11_edge 0 = .ok (.aload_n 0, 1) := by decide +kernel
theorem dX11_edge_1 : decode cX11_edge 1 = .ok (.iload_n 1, 1) := by decide +kernel
theorem dX11_edge_2 : decode cX11_edge 2 = .ok (.iload_n 2, 1) := by decide +kernel
theorem dX11_edge_3 : decode cX11_edge 3 = .ok (.iload_n 3, 1) := by decide +kernel
theorem dX11_edge_4 : decode cX11_edge 4 = .ok (.iload 4, 2) := by decide +kernel
theorem dX11_edge_6 : decode cX11_edge 6 = .ok (.invokevirtual 341, 3) := by decide +kernel
theorem dX11_edge_9 : decode cX11_edge 9 = .ok (.ifCond .ne 5, 3) := by decide +kernel
theorem dX11_edge_12 : decode cX11_edge 12 = .ok (.iconst (-1), 1) := by decide +kernel
theorem dX11_edge_13 : decode cX11_edge 13 = .ok (.ireturn, 1) := by decide +kernel
theorem dX11_edge_14 : decode cX11_edge 14 = .ok (.iconst 0, 1) := by decide +kernel
theorem dX11_edge_15 : decode cX11_edge 15 = .ok (.istore 5, 2) := by decide +kernel
theorem dX11_edge_17 : decode cX11_edge 17 = .ok (.iload 5, 2) := by decide +kernel
theorem dX11_edge_19 : decode cX11_edge 19 = .ok (.bipush 30, 2) := by decide +kernel
theorem dX11_edge_21 : decode cX11_edge 21 = .ok (.if_icmp .gt 35, 3) := by decide +kernel
theorem dX11_edge_24 : decode cX11_edge 24 = .ok (.aload_n 0, 1) := by decide +kernel
theorem dX11_edge_25 : decode cX11_edge 25 = .ok (.iload_n 1, 1) := by decide +kernel
theorem dX11_edge_26 : decode cX11_edge 26 = .ok (.invokevirtual 348, 3) := by decide +kernel
theorem dX11_edge_29 : decode cX11_edge 29 = .ok (.aload_n 0, 1) := by decide +kernel
theorem dX11_edge_30 : decode cX11_edge 30 = .ok (.iload 5, 2) := by decide +kernel
theorem dX11_edge_32 : decode cX11_edge 32 = .ok (.putfield 281, 3) := by decide +kernel
theorem dX11_edge_35 : decode cX11_edge 35 = .ok (.aload_n 0, 1) := by decide +kernel
theorem dX11_edge_36 : decode cX11_edge 36 = .ok (.iconst 1, 1) := by decide +kernel
theorem dX11_edge_37 : decode cX11_edge 37 = .ok (.iload_n 2, 1) := by decide +kernel
theorem dX11_edge_38 : decode cX11_edge 38 = .ok (.iload_n 3, 1) := by decide +kernel
theorem dX11_edge_39 : decode cX11_edge 39 = .ok (.iload 4, 2) := by decide +kernel
theorem dX11_edge_41 : decode cX11_edge 41 = .ok (.invokevirtual 319, 3) := by decide +kernel
theorem dX11_edge_44 : decode cX11_edge 44 = .ok (.ifCond .ne 6, 3) := by decide +kernel
theorem dX11_edge_47 : decode cX11_edge 47 = .ok (.iload 5, 2) := by decide +kernel
theorem dX11_edge_49 : decode cX11_edge 49 = .ok (.ireturn, 1) := by decide +kernel
theorem dX11_edge_50 : decode cX11_edge 50 = .ok (.iinc 5 1, 3) := by decide +kernel
theorem dX11_edge_53 : decode cX11_edge 53 = .ok (.goto (-36), 3) := by decide +kernel
theorem dX11_edge_56 : decode cX11_edge 56 = .ok (.iconst (-1), 1) := by decide +kernel
theorem dX11_edge_57 : decode cX11_edge 57 = .ok (.ireturn, 1) := by decide +kernel
theorem dX11_tell_0 : decode cX11_tell 0 = .ok (.aload_n 0, 1) := by decide +kernel
theorem dX11_tell_1 : decode cX11_tell 1 = .ok (.iload_n 1, 1) := by decide +kernel
theorem dX11_tell_2 : decode cX11_tell 2 = .ok (.iload_n 2, 1) := by decide +kernel
theorem dX11_tell_3 : decode cX11_tell 3 = .ok (.invokevirtual 265, 3) := by decide +kernel
theorem dX11_tell_6 : decode cX11_tell 6 = .ok (.ifCond .eq 28, 3) := by decide +kernel
theorem dX11_tell_9 : decode cX11_tell 9 = .ok (.iload_n 3, 1) := by decide +kernel
theorem dX11_tell_10 : decode cX11_tell 10 = .ok (.iconst 0, 1) := by decide +kernel
theorem dX11_tell_11 : decode cX11_tell 11 = .ok (.bipush 40, 2) := by decide +kernel
theorem dX11_tell_13 : decode cX11_tell 13 = .ok (.invokestatic 145, 3) := by decide +kernel
theorem dX11_tell_16 : decode cX11_tell 16 = .ok (.ifCond .eq 18, 3) := by decide +kernel
theorem dX11_tell_19 : decode cX11_tell 19 = .ok (.iload 4, 2) := by decide +kernel
theorem dX11_tell_21 : decode cX11_tell 21 = .ok (.iconst 0, 1) := by decide +kernel
theorem dX11_tell_22 : decode cX11_tell 22 = .ok (.iload_n 3, 1) := by decide +kernel
theorem dX11_tell_23 : decode cX11_tell 23 = .ok (.bipush 20, 2) := by decide +kernel
theorem dX11_tell_25 : decode cX11_tell 25 = .ok (.invokestatic 169, 3) := by decide +kernel
theorem dX11_tell_28 : decode cX11_tell 28 = .ok (.invokestatic 145, 3) := by decide +kernel
theorem dX11_tell_31 : decode cX11_tell 31 = .ok (.ifCond .ne 5, 3) := by decide +kernel
theorem dX11_tell_34 : decode cX11_tell 34 = .ok (.iconst 0, 1) := by decide +kernel
theorem dX11_tell_35 : decode cX11_tell 35 = .ok (.ireturn, 1) := by decide +kernel
theorem dX11_tell_36 : decode cX11_tell 36 = .ok (.aload_n 0, 1) := by decide +kernel
theorem dX11_tell_37 : decode cX11_tell 37 = .ok (.getfield 49, 3) := by decide +kernel
theorem dX11_tell_40 : decode cX11_tell 40 = .ok (.bipush 41, 2) := by decide +kernel
theorem dX11_tell_42 : decode cX11_tell 42 = .ok (.iconst 4, 1) := by decide +kernel
theorem dX11_tell_43 : decode cX11_tell 43 = .ok (.iload_n 1, 1) := by decide +kernel
theorem dX11_tell_44 : decode cX11_tell 44 = .ok (.imul, 1) := by decide +kernel
theorem dX11_tell_45 : decode cX11_tell 45 = .ok (.iload_n 2, 1) := by decide +kernel
theorem dX11_tell_46 : decode cX11_tell 46 = .ok (.iadd, 1) := by decide +kernel
theorem dX11_tell_47 : decode cX11_tell 47 = .ok (.imul, 1) := by decide +kernel
theorem dX11_tell_48 : decode cX11_tell 48 = .ok (.iload_n 3, 1) := by decide +kernel
theorem dX11_tell_49 : decode cX11_tell 49 = .ok (.iadd, 1) := by decide +kernel
theorem dX11_tell_50 : decode cX11_tell 50 = .ok (.iload 4, 2) := by decide +kernel
theorem dX11_tell_52 : decode cX11_tell 52 = .ok (.iastore, 1) := by decide +kernel
theorem dX11_tell_53 : decode cX11_tell 53 = .ok (.iconst 1, 1) := by decide +kernel
theorem dX11_tell_54 : decode cX11_tell 54 = .ok (.ireturn, 1) := by decide +kernel
theorem dX11_judge_0 : decode cX11_judge 0 = .ok (.aload_n 0, 1) := by decide +kernel
theorem dX11_judge_1 : decode cX11_judge 1 = .ok (.iload_n 1, 1) := by decide +kernel
theorem dX11_judge_2 : decode cX11_judge 2 = .ok (.iload_n 2, 1) := by decide +kernel
theorem dX11_judge_3 : decode cX11_judge 3 = .ok (.iload_n 3, 1) := by decide +kernel
theorem dX11_judge_4 : decode cX11_judge 4 = .ok (.iconst 0, 1) := by decide +kernel
theorem dX11_judge_5 : decode cX11_judge 5 = .ok (.invokevirtual 341, 3) := by decide +kernel
theorem dX11_judge_8 : decode cX11_judge 8 = .ok (.ifCond .ne 5, 3) := by decide +kernel
theorem dX11_judge_11 : decode cX11_judge 11 = .ok (.iconst (-1), 1) := by decide +kernel
theorem dX11_judge_12 : decode cX11_judge 12 = .ok (.ireturn, 1) := by decide +kernel
theorem dX11_judge_13 : decode cX11_judge 13 = .ok (.aload_n 0, 1) := by decide +kernel
theorem dX11_judge_14 : decode cX11_judge 14 = .ok (.iload_n 1, 1) := by decide +kernel
theorem dX11_judge_15 : decode cX11_judge 15 = .ok (.invokevirtual 348, 3) := by decide +kernel
theorem dX11_judge_18 : decode cX11_judge 18 = .ok (.iconst 0, 1) := by decide +kernel
theorem dX11_judge_19 : decode cX11_judge 19 = .ok (.istore 4, 2) := by decide +kernel
theorem dX11_judge_21 : decode cX11_judge 21 = .ok (.iload 4, 2) := by decide +kernel
theorem dX11_judge_23 : decode cX11_judge 23 = .ok (.bipush 41, 2) := by decide +kernel
theorem dX11_judge_25 : decode cX11_judge 25 = .ok (.if_icmp .ge 40, 3) := by decide +kernel
theorem dX11_judge_28 : decode cX11_judge 28 = .ok (.aload_n 0, 1) := by decide +kernel
theorem dX11_judge_29 : decode cX11_judge 29 = .ok (.iconst 1, 1) := by decide +kernel
theorem dX11_judge_30 : decode cX11_judge 30 = .ok (.iload_n 2, 1) := by decide +kernel
theorem dX11_judge_31 : decode cX11_judge 31 = .ok (.iload_n 3, 1) := by decide +kernel
theorem dX11_judge_32 : decode cX11_judge 32 = .ok (.iload 4, 2) := by decide +kernel
theorem dX11_judge_34 : decode cX11_judge 34 = .ok (.invokevirtual 319, 3) := by decide +kernel
theorem dX11_judge_37 : decode cX11_judge 37 = .ok (.aload_n 0, 1) := by decide +kernel
theorem dX11_judge_38 : decode cX11_judge 38 = .ok (.getfield 49, 3) := by decide +kernel
theorem dX11_judge_41 : decode cX11_judge 41 = .ok (.bipush 41, 2) := by decide +kernel
theorem dX11_judge_43 : decode cX11_judge 43 = .ok (.iconst 4, 1) := by decide +kernel
theorem dX11_judge_44 : decode cX11_judge 44 = .ok (.iload_n 1, 1) := by decide +kernel
theorem dX11_judge_45 : decode cX11_judge 45 = .ok (.imul, 1) := by decide +kernel
theorem dX11_judge_46 : decode cX11_judge 46 = .ok (.iload_n 3, 1) := by decide +kernel
theorem dX11_judge_47 : decode cX11_judge 47 = .ok (.iadd, 1) := by decide +kernel
theorem dX11_judge_48 : decode cX11_judge 48 = .ok (.imul, 1) := by decide +kernel
theorem dX11_judge_49 : decode cX11_judge 49 = .ok (.iload 4, 2) := by decide +kernel
theorem dX11_judge_51 : decode cX11_judge 51 = .ok (.iadd, 1) := by decide +kernel
theorem dX11_judge_52 : decode cX11_judge 52 = .ok (.iaload, 1) := by decide +kernel
theorem dX11_judge_53 : decode cX11_judge 53 = .ok (.if_icmp .eq 6, 3) := by decide +kernel
theorem dX11_judge_56 : decode cX11_judge 56 = .ok (.iload 4, 2) := by decide +kernel
theorem dX11_judge_58 : decode cX11_judge 58 = .ok (.ireturn, 1) := by decide +kernel
theorem dX11_judge_59 : decode cX11_judge 59 = .ok (.iinc 4 1, 3) := by decide +kernel
theorem dX11_judge_62 : decode cX11_judge 62 = .ok (.goto (-41), 3) := by decide +kernel
theorem dX11_judge_65 : decode cX11_judge 65 = .ok (.iconst (-1), 1) := by decide +kernel
theorem dX11_judge_66 : decode cX11_judge 66 = .ok (.ireturn, 1) := by decide +kernel
theorem dX11_news_0 : decode cX11_news 0 = .ok (.aload_n 0, 1) := by decide +kernel
theorem dX11_news_1 : decode cX11_news 1 = .ok (.iload_n 1, 1) := by decide +kernel
theorem dX11_news_2 : decode cX11_news 2 = .ok (.iload_n 2, 1) := by decide +kernel
theorem dX11_news_3 : decode cX11_news 3 = .ok (.iload_n 3, 1) := by decide +kernel
theorem dX11_news_4 : decode cX11_news 4 = .ok (.iload 4, 2) := by decide +kernel
theorem dX11_news_6 : decode cX11_news 6 = .ok (.invokevirtual 341, 3) := by decide +kernel
theorem dX11_news_9 : decode cX11_news 9 = .ok (.ifCond .eq 8, 3) := by decide +kernel
theorem dX11_news_12 : decode cX11_news 12 = .ok (.iload_n 2, 1) := by decide +kernel
theorem dX11_news_13 : decode cX11_news 13 = .ok (.iconst 2, 1) := by decide +kernel
theorem dX11_news_14 : decode cX11_news 14 = .ok (.if_icmp .ge 7, 3) := by decide +kernel
theorem dX11_news_17 : decode cX11_news 17 = .ok (.ldc2_w 354, 3) := by decide +kernel
theorem dX11_news_20 : decode cX11_news 20 = .ok (.lreturn, 1) := by decide +kernel
theorem dX11_news_21 : decode cX11_news 21 = .ok (.aload_n 0, 1) := by decide +kernel
theorem dX11_news_22 : decode cX11_news 22 = .ok (.iload_n 1, 1) := by decide +kernel
theorem dX11_news_23 : decode cX11_news 23 = .ok (.invokevirtual 348, 3) := by decide +kernel
theorem dX11_news_26 : decode cX11_news 26 = .ok (.aload_n 0, 1) := by decide +kernel
theorem dX11_news_27 : decode cX11_news 27 = .ok (.iload_n 3, 1) := by decide +kernel
theorem dX11_news_28 : decode cX11_news 28 = .ok (.invokevirtual 284, 3) := by decide +kernel
theorem dX11_news_31 : decode cX11_news 31 = .ok (.istore 5, 2) := by decide +kernel
theorem dX11_news_33 : decode cX11_news 33 = .ok (.lconst 0, 1) := by decide +kernel
theorem dX11_news_34 : decode cX11_news 34 = .ok (.lstore 6, 2) := by decide +kernel
theorem dX11_news_36 : decode cX11_news 36 = .ok (.iconst 0, 1) := by decide +kernel
theorem dX11_news_37 : decode cX11_news 37 = .ok (.istore 8, 2) := by decide +kernel
theorem dX11_news_39 : decode cX11_news 39 = .ok (.iload 8, 2) := by decide +kernel
theorem dX11_news_41 : decode cX11_news 41 = .ok (.aload_n 0, 1) := by decide +kernel
theorem dX11_news_42 : decode cX11_news 42 = .ok (.iload 5, 2) := by decide +kernel
theorem dX11_news_44 : decode cX11_news 44 = .ok (.invokevirtual 310, 3) := by decide +kernel
theorem dX11_news_47 : decode cX11_news 47 = .ok (.if_icmp .ge 124, 3) := by decide +kernel
theorem dX11_news_50 : decode cX11_news 50 = .ok (.ldc2_w 361, 3) := by decide +kernel
theorem dX11_news_53 : decode cX11_news 53 = .ok (.lstore 9, 2) := by decide +kernel
theorem dX11_news_55 : decode cX11_news 55 = .ok (.iconst 0, 1) := by decide +kernel
theorem dX11_news_56 : decode cX11_news 56 = .ok (.istore 11, 2) := by decide +kernel
theorem dX11_news_58 : decode cX11_news 58 = .ok (.iload 11, 2) := by decide +kernel
theorem dX11_news_60 : decode cX11_news 60 = .ok (.aload_n 0, 1) := by decide +kernel
theorem dX11_news_61 : decode cX11_news 61 = .ok (.iload 4, 2) := by decide +kernel
theorem dX11_news_63 : decode cX11_news 63 = .ok (.invokevirtual 307, 3) := by decide +kernel
theorem dX11_news_66 : decode cX11_news 66 = .ok (.if_icmp .gt 82, 3) := by decide +kernel
theorem dX11_news_69 : decode cX11_news 69 = .ok (.aload_n 0, 1) := by decide +kernel
theorem dX11_news_70 : decode cX11_news 70 = .ok (.aload_n 0, 1) := by decide +kernel
theorem dX11_news_71 : decode cX11_news 71 = .ok (.getfield 278, 3) := by decide +kernel
theorem dX11_news_74 : decode cX11_news 74 = .ok (.iload 4, 2) := by decide +kernel
theorem dX11_news_76 : decode cX11_news 76 = .ok (.iload 11, 2) := by decide +kernel
theorem dX11_news_78 : decode cX11_news 78 = .ok (.isub, 1) := by decide +kernel
theorem dX11_news_79 : decode cX11_news 79 = .ok (.invokevirtual 262, 3) := by decide +kernel
theorem dX11_news_82 : decode cX11_news 82 = .ok (.aload_n 0, 1) := by decide +kernel
theorem dX11_news_83 : decode cX11_news 83 = .ok (.getfield 281, 3) := by decide +kernel
theorem dX11_news_86 : decode cX11_news 86 = .ok (.iload 11, 2) := by decide +kernel
theorem dX11_news_88 : decode cX11_news 88 = .ok (.imul, 1) := by decide +kernel
theorem dX11_news_89 : decode cX11_news 89 = .ok (.isub, 1) := by decide +kernel
theorem dX11_news_90 : decode cX11_news 90 = .ok (.i2l, 1) := by decide +kernel
theorem dX11_news_91 : decode cX11_news 91 = .ok (.aload_n 0, 1) := by decide +kernel
theorem dX11_news_92 : decode cX11_news 92 = .ok (.iload_n 2, 1) := by decide +kernel
theorem dX11_news_93 : decode cX11_news 93 = .ok (.iconst 1, 1) := by decide +kernel
theorem dX11_news_94 : decode cX11_news 94 = .ok (.isub, 1) := by decide +kernel
theorem dX11_news_95 : decode cX11_news 95 = .ok (.iload 5, 2) := by decide +kernel
theorem dX11_news_97 : decode cX11_news 97 = .ok (.invokevirtual 287, 3) := by decide +kernel
theorem dX11_news_100 : decode cX11_news 100 = .ok (.lmul, 1) := by decide +kernel
theorem dX11_news_101 : decode cX11_news 101 = .ok (.aload_n 0, 1) := by decide +kernel
theorem dX11_news_102 : decode cX11_news 102 = .ok (.iconst 2, 1) := by decide +kernel
theorem dX11_news_103 : decode cX11_news 103 = .ok (.iload_n 2, 1) := by decide +kernel
theorem dX11_news_104 : decode cX11_news 104 = .ok (.iconst 1, 1) := by decide +kernel
theorem dX11_news_105 : decode cX11_news 105 = .ok (.isub, 1) := by decide +kernel
theorem dX11_news_106 : decode cX11_news 106 = .ok (.iload 5, 2) := by decide +kernel
theorem dX11_news_108 : decode cX11_news 108 = .ok (.aload_n 0, 1) := by decide +kernel
theorem dX11_news_109 : decode cX11_news 109 = .ok (.aload_n 0, 1) := by decide +kernel
theorem dX11_news_110 : decode cX11_news 110 = .ok (.getfield 278, 3) := by decide +kernel
theorem dX11_news_113 : decode cX11_news 113 = .ok (.iload 11, 2) := by decide +kernel
theorem dX11_news_115 : decode cX11_news 115 = .ok (.invokevirtual 275, 3) := by decide +kernel
theorem dX11_news_118 : decode cX11_news 118 = .ok (.aload_n 0, 1) := by decide +kernel
theorem dX11_news_119 : decode cX11_news 119 = .ok (.iload 5, 2) := by decide +kernel
theorem dX11_news_121 : decode cX11_news 121 = .ok (.iload 8, 2) := by decide +kernel
theorem dX11_news_123 : decode cX11_news 123 = .ok (.invokevirtual 313, 3) := by decide +kernel
theorem dX11_news_126 : decode cX11_news 126 = .ok (.iadd, 1) := by decide +kernel
theorem dX11_news_127 : decode cX11_news 127 = .ok (.invokevirtual 322, 3) := by decide +kernel
theorem dX11_news_130 : decode cX11_news 130 = .ok (.ladd, 1) := by decide +kernel
theorem dX11_news_131 : decode cX11_news 131 = .ok (.lstore 12, 2) := by decide +kernel
theorem dX11_news_133 : decode cX11_news 133 = .ok (.lload 9, 2) := by decide +kernel
theorem dX11_news_135 : decode cX11_news 135 = .ok (.lload 12, 2) := by decide +kernel
theorem dX11_news_137 : decode cX11_news 137 = .ok (.invokestatic 237, 3) := by decide +kernel
theorem dX11_news_140 : decode cX11_news 140 = .ok (.lstore 9, 2) := by decide +kernel
theorem dX11_news_142 : decode cX11_news 142 = .ok (.iinc 11 1, 3) := by decide +kernel
theorem dX11_news_145 : decode cX11_news 145 = .ok (.goto (-87), 3) := by decide +kernel
theorem dX11_news_148 : decode cX11_news 148 = .ok (.lload 6, 2) := by decide +kernel
theorem dX11_news_150 : decode cX11_news 150 = .ok (.aload_n 0, 1) := by decide +kernel
theorem dX11_news_151 : decode cX11_news 151 = .ok (.iload 5, 2) := by decide +kernel
theorem dX11_news_153 : decode cX11_news 153 = .ok (.iload 8, 2) := by decide +kernel
theorem dX11_news_155 : decode cX11_news 155 = .ok (.invokevirtual 316, 3) := by decide +kernel
theorem dX11_news_158 : decode cX11_news 158 = .ok (.i2l, 1) := by decide +kernel
theorem dX11_news_159 : decode cX11_news 159 = .ok (.lload 9, 2) := by decide +kernel
theorem dX11_news_161 : decode cX11_news 161 = .ok (.lmul, 1) := by decide +kernel
theorem dX11_news_162 : decode cX11_news 162 = .ok (.ladd, 1) := by decide +kernel
theorem dX11_news_163 : decode cX11_news 163 = .ok (.lstore 6, 2) := by decide +kernel
theorem dX11_news_165 : decode cX11_news 165 = .ok (.iinc 8 1, 3) := by decide +kernel
theorem dX11_news_168 : decode cX11_news 168 = .ok (.goto (-129), 3) := by decide +kernel
theorem dX11_news_171 : decode cX11_news 171 = .ok (.lload 6, 2) := by decide +kernel
theorem dX11_news_173 : decode cX11_news 173 = .ok (.aload_n 0, 1) := by decide +kernel
theorem dX11_news_174 : decode cX11_news 174 = .ok (.iconst 2, 1) := by decide +kernel
theorem dX11_news_175 : decode cX11_news 175 = .ok (.iload_n 2, 1) := by decide +kernel
theorem dX11_news_176 : decode cX11_news 176 = .ok (.iload_n 3, 1) := by decide +kernel
theorem dX11_news_177 : decode cX11_news 177 = .ok (.iload 4, 2) := by decide +kernel
theorem dX11_news_179 : decode cX11_news 179 = .ok (.invokevirtual 322, 3) := by decide +kernel
theorem dX11_news_182 : decode cX11_news 182 = .ok (.lsub, 1) := by decide +kernel
theorem dX11_news_183 : decode cX11_news 183 = .ok (.lreturn, 1) := by decide +kernel
theorem dX11_spread_0 : decode cX11_spread 0 = .ok (.iconst 0, 1) := by decide +kernel
theorem dX11_spread_1 : decode cX11_spread 1 = .ok (.istore 6, 2) := by decide +kernel
theorem dX11_spread_3 : decode cX11_spread 3 = .ok (.iload 6, 2) := by decide +kernel
theorem dX11_spread_5 : decode cX11_spread 5 = .ok (.bipush 41, 2) := by decide +kernel
theorem dX11_spread_7 : decode cX11_spread 7 = .ok (.if_icmp .ge 28, 3) := by decide +kernel
theorem dX11_spread_10 : decode cX11_spread 10 = .ok (.aload_n 0, 1) := by decide +kernel
theorem dX11_spread_11 : decode cX11_spread 11 = .ok (.getfield 96, 3) := by decide +kernel
theorem dX11_spread_14 : decode cX11_spread 14 = .ok (.iload 6, 2) := by decide +kernel
theorem dX11_spread_16 : decode cX11_spread 16 = .ok (.iload 6, 2) := by decide +kernel
theorem dX11_spread_18 : decode cX11_spread 18 = .ok (.iload 4, 2) := by decide +kernel
theorem dX11_spread_20 : decode cX11_spread 20 = .ok (.if_icmp .ne 7, 3) := by decide +kernel
theorem dX11_spread_23 : decode cX11_spread 23 = .ok (.lconst 1, 1) := by decide +kernel
theorem dX11_spread_24 : decode cX11_spread 24 = .ok (.goto 4, 3) := by decide +kernel
theorem dX11_spread_27 : decode cX11_spread 27 = .ok (.lconst 0, 1) := by decide +kernel
theorem dX11_spread_28 : decode cX11_spread 28 = .ok (.lastore, 1) := by decide +kernel
theorem dX11_spread_29 : decode cX11_spread 29 = .ok (.iinc 6 1, 3) := by decide +kernel
theorem dX11_spread_32 : decode cX11_spread 32 = .ok (.goto (-29), 3) := by decide +kernel
theorem dX11_spread_35 : decode cX11_spread 35 = .ok (.iload_n 3, 1) := by decide +kernel
theorem dX11_spread_36 : decode cX11_spread 36 = .ok (.istore 6, 2) := by decide +kernel
theorem dX11_spread_38 : decode cX11_spread 38 = .ok (.iconst 0, 1) := by decide +kernel
theorem dX11_spread_39 : decode cX11_spread 39 = .ok (.istore 7, 2) := by decide +kernel
theorem dX11_spread_41 : decode cX11_spread 41 = .ok (.iload 7, 2) := by decide +kernel
theorem dX11_spread_43 : decode cX11_spread 43 = .ok (.iload 5, 2) := by decide +kernel
theorem dX11_spread_45 : decode cX11_spread 45 = .ok (.if_icmp .ge 195, 3) := by decide +kernel
theorem dX11_spread_48 : decode cX11_spread 48 = .ok (.aload_n 0, 1) := by decide +kernel
theorem dX11_spread_49 : decode cX11_spread 49 = .ok (.iload 6, 2) := by decide +kernel
theorem dX11_spread_51 : decode cX11_spread 51 = .ok (.invokevirtual 284, 3) := by decide +kernel
theorem dX11_spread_54 : decode cX11_spread 54 = .ok (.istore 8, 2) := by decide +kernel
theorem dX11_spread_56 : decode cX11_spread 56 = .ok (.iconst 0, 1) := by decide +kernel
theorem dX11_spread_57 : decode cX11_spread 57 = .ok (.istore 9, 2) := by decide +kernel
theorem dX11_spread_59 : decode cX11_spread 59 = .ok (.iload 9, 2) := by decide +kernel
theorem dX11_spread_61 : decode cX11_spread 61 = .ok (.bipush 41, 2) := by decide +kernel
theorem dX11_spread_63 : decode cX11_spread 63 = .ok (.if_icmp .ge 17, 3) := by decide +kernel
theorem dX11_spread_66 : decode cX11_spread 66 = .ok (.aload_n 0, 1) := by decide +kernel
theorem dX11_spread_67 : decode cX11_spread 67 = .ok (.getfield 99, 3) := by decide +kernel
theorem dX11_spread_70 : decode cX11_spread 70 = .ok (.iload 9, 2) := by decide +kernel
theorem dX11_spread_72 : decode cX11_spread 72 = .ok (.lconst 0, 1) := by decide +kernel
theorem dX11_spread_73 : decode cX11_spread 73 = .ok (.lastore, 1) := by decide +kernel
theorem dX11_spread_74 : decode cX11_spread 74 = .ok (.iinc 9 1, 3) := by decide +kernel
theorem dX11_spread_77 : decode cX11_spread 77 = .ok (.goto (-18), 3) := by decide +kernel
theorem dX11_spread_80 : decode cX11_spread 80 = .ok (.iconst 0, 1) := by decide +kernel
theorem dX11_spread_81 : decode cX11_spread 81 = .ok (.istore 9, 2) := by decide +kernel
theorem dX11_spread_83 : decode cX11_spread 83 = .ok (.iload 9, 2) := by decide +kernel
theorem dX11_spread_85 : decode cX11_spread 85 = .ok (.bipush 41, 2) := by decide +kernel
theorem dX11_spread_87 : decode cX11_spread 87 = .ok (.if_icmp .ge 113, 3) := by decide +kernel
theorem dX11_spread_90 : decode cX11_spread 90 = .ok (.aload_n 0, 1) := by decide +kernel
theorem dX11_spread_91 : decode cX11_spread 91 = .ok (.getfield 96, 3) := by decide +kernel
theorem dX11_spread_94 : decode cX11_spread 94 = .ok (.iload 9, 2) := by decide +kernel
theorem dX11_spread_96 : decode cX11_spread 96 = .ok (.laload, 1) := by decide +kernel
theorem dX11_spread_97 : decode cX11_spread 97 = .ok (.lconst 0, 1) := by decide +kernel
theorem dX11_spread_98 : decode cX11_spread 98 = .ok (.lcmp, 1) := by decide +kernel
theorem dX11_spread_99 : decode cX11_spread 99 = .ok (.ifCond .ne 7, 3) := by decide +kernel
theorem dX11_spread_102 : decode cX11_spread 102 = .ok (.iconst 0, 1) := by decide +kernel
theorem dX11_spread_103 : decode cX11_spread 103 = .ok (.goto 21, 3) := by decide +kernel
theorem dX11_spread_106 : decode cX11_spread 106 = .ok (.aload_n 0, 1) := by decide +kernel
theorem dX11_spread_107 : decode cX11_spread 107 = .ok (.aload_n 0, 1) := by decide +kernel
theorem dX11_spread_108 : decode cX11_spread 108 = .ok (.getfield 278, 3) := by decide +kernel
theorem dX11_spread_111 : decode cX11_spread 111 = .ok (.aload_n 0, 1) := by decide +kernel
theorem dX11_spread_112 : decode cX11_spread 112 = .ok (.iload_n 1, 1) := by decide +kernel
theorem dX11_spread_113 : decode cX11_spread 113 = .ok (.iload_n 2, 1) := by decide +kernel
theorem dX11_spread_114 : decode cX11_spread 114 = .ok (.iload 6, 2) := by decide +kernel
theorem dX11_spread_116 : decode cX11_spread 116 = .ok (.iload 9, 2) := by decide +kernel
theorem dX11_spread_118 : decode cX11_spread 118 = .ok (.invokevirtual 319, 3) := by decide +kernel
theorem dX11_spread_121 : decode cX11_spread 121 = .ok (.invokevirtual 275, 3) := by decide +kernel
theorem dX11_spread_124 : decode cX11_spread 124 = .ok (.istore 10, 2) := by decide +kernel
theorem dX11_spread_126 : decode cX11_spread 126 = .ok (.iconst 0, 1) := by decide +kernel
theorem dX11_spread_127 : decode cX11_spread 127 = .ok (.istore 11, 2) := by decide +kernel
theorem dX11_spread_129 : decode cX11_spread 129 = .ok (.iload 11, 2) := by decide +kernel
theorem dX11_spread_131 : decode cX11_spread 131 = .ok (.aload_n 0, 1) := by decide +kernel
theorem dX11_spread_132 : decode cX11_spread 132 = .ok (.iload 8, 2) := by decide +kernel
theorem dX11_spread_134 : decode cX11_spread 134 = .ok (.invokevirtual 310, 3) := by decide +kernel
theorem dX11_spread_137 : decode cX11_spread 137 = .ok (.if_icmp .ge 57, 3) := by decide +kernel
theorem dX11_spread_140 : decode cX11_spread 140 = .ok (.aload_n 0, 1) := by decide +kernel
theorem dX11_spread_141 : decode cX11_spread 141 = .ok (.getfield 96, 3) := by decide +kernel
theorem dX11_spread_144 : decode cX11_spread 144 = .ok (.iload 9, 2) := by decide +kernel
theorem dX11_spread_146 : decode cX11_spread 146 = .ok (.laload, 1) := by decide +kernel
theorem dX11_spread_147 : decode cX11_spread 147 = .ok (.lconst 0, 1) := by decide +kernel
theorem dX11_spread_148 : decode cX11_spread 148 = .ok (.lcmp, 1) := by decide +kernel
theorem dX11_spread_149 : decode cX11_spread 149 = .ok (.ifCond .le 45, 3) := by decide +kernel
theorem dX11_spread_152 : decode cX11_spread 152 = .ok (.aload_n 0, 1) := by decide +kernel
theorem dX11_spread_153 : decode cX11_spread 153 = .ok (.getfield 99, 3) := by decide +kernel
theorem dX11_spread_156 : decode cX11_spread 156 = .ok (.iload 10, 2) := by decide +kernel
theorem dX11_spread_158 : decode cX11_spread 158 = .ok (.aload_n 0, 1) := by decide +kernel
theorem dX11_spread_159 : decode cX11_spread 159 = .ok (.iload 8, 2) := by decide +kernel
theorem dX11_spread_161 : decode cX11_spread 161 = .ok (.iload 11, 2) := by decide +kernel
theorem dX11_spread_163 : decode cX11_spread 163 = .ok (.invokevirtual 313, 3) := by decide +kernel
theorem dX11_spread_166 : decode cX11_spread 166 = .ok (.iadd, 1) := by decide +kernel
theorem dX11_spread_167 : decode cX11_spread 167 = .ok (.dup2, 1) := by decide +kernel
theorem dX11_spread_168 : decode cX11_spread 168 = .ok (.laload, 1) := by decide +kernel
theorem dX11_spread_169 : decode cX11_spread 169 = .ok (.aload_n 0, 1) := by decide +kernel
theorem dX11_spread_170 : decode cX11_spread 170 = .ok (.getfield 96, 3) := by decide +kernel
theorem dX11_spread_173 : decode cX11_spread 173 = .ok (.iload 9, 2) := by decide +kernel
theorem dX11_spread_175 : decode cX11_spread 175 = .ok (.laload, 1) := by decide +kernel
theorem dX11_spread_176 : decode cX11_spread 176 = .ok (.aload_n 0, 1) := by decide +kernel
theorem dX11_spread_177 : decode cX11_spread 177 = .ok (.iload 8, 2) := by decide +kernel
theorem dX11_spread_179 : decode cX11_spread 179 = .ok (.iload 11, 2) := by decide +kernel
theorem dX11_spread_181 : decode cX11_spread 181 = .ok (.invokevirtual 316, 3) := by decide +kernel
theorem dX11_spread_184 : decode cX11_spread 184 = .ok (.i2l, 1) := by decide +kernel
theorem dX11_spread_185 : decode cX11_spread 185 = .ok (.lmul, 1) := by decide +kernel
theorem dX11_spread_186 : decode cX11_spread 186 = .ok (.ladd, 1) := by decide +kernel
theorem dX11_spread_187 : decode cX11_spread 187 = .ok (.lastore, 1) := by decide +kernel
theorem dX11_spread_188 : decode cX11_spread 188 = .ok (.iinc 11 1, 3) := by decide +kernel
theorem dX11_spread_191 : decode cX11_spread 191 = .ok (.goto (-62), 3) := by decide +kernel
theorem dX11_spread_194 : decode cX11_spread 194 = .ok (.iinc 9 1, 3) := by decide +kernel
theorem dX11_spread_197 : decode cX11_spread 197 = .ok (.goto (-114), 3) := by decide +kernel
theorem dX11_spread_200 : decode cX11_spread 200 = .ok (.iconst 0, 1) := by decide +kernel
theorem dX11_spread_201 : decode cX11_spread 201 = .ok (.istore 9, 2) := by decide +kernel
theorem dX11_spread_203 : decode cX11_spread 203 = .ok (.iload 9, 2) := by decide +kernel
theorem dX11_spread_205 : decode cX11_spread 205 = .ok (.bipush 41, 2) := by decide +kernel
theorem dX11_spread_207 : decode cX11_spread 207 = .ok (.if_icmp .ge 23, 3) := by decide +kernel
theorem dX11_spread_210 : decode cX11_spread 210 = .ok (.aload_n 0, 1) := by decide +kernel
theorem dX11_spread_211 : decode cX11_spread 211 = .ok (.getfield 96, 3) := by decide +kernel
theorem dX11_spread_214 : decode cX11_spread 214 = .ok (.iload 9, 2) := by decide +kernel
theorem dX11_spread_216 : decode cX11_spread 216 = .ok (.aload_n 0, 1) := by decide +kernel
theorem dX11_spread_217 : decode cX11_spread 217 = .ok (.getfield 99, 3) := by decide +kernel
theorem dX11_spread_220 : decode cX11_spread 220 = .ok (.iload 9, 2) := by decide +kernel
theorem dX11_spread_222 : decode cX11_spread 222 = .ok (.laload, 1) := by decide +kernel
theorem dX11_spread_223 : decode cX11_spread 223 = .ok (.lastore, 1) := by decide +kernel
theorem dX11_spread_224 : decode cX11_spread 224 = .ok (.iinc 9 1, 3) := by decide +kernel
theorem dX11_spread_227 : decode cX11_spread 227 = .ok (.goto (-24), 3) := by decide +kernel
theorem dX11_spread_230 : decode cX11_spread 230 = .ok (.iload 8, 2) := by decide +kernel
theorem dX11_spread_232 : decode cX11_spread 232 = .ok (.istore 6, 2) := by decide +kernel
theorem dX11_spread_234 : decode cX11_spread 234 = .ok (.iinc 7 1, 3) := by decide +kernel
theorem dX11_spread_237 : decode cX11_spread 237 = .ok (.goto (-196), 3) := by decide +kernel
theorem dX11_spread_240 : decode cX11_spread 240 = .ok (.iload 6, 2) := by decide +kernel
theorem dX11_spread_242 : decode cX11_spread 242 = .ok (.ireturn, 1) := by decide +kernel
theorem dX11_after__0 : decode cX11_after_ 0 = .ok (.aload_n 0, 1) := by decide +kernel
theorem dX11_after__1 : decode cX11_after_ 1 = .ok (.iload_n 1, 1) := by decide +kernel
theorem dX11_after__2 : decode cX11_after_ 2 = .ok (.iload_n 3, 1) := by decide +kernel
theorem dX11_after__3 : decode cX11_after_ 3 = .ok (.iload 4, 2) := by decide +kernel
theorem dX11_after__5 : decode cX11_after_ 5 = .ok (.iload 5, 2) := by decide +kernel
theorem dX11_after__7 : decode cX11_after_ 7 = .ok (.invokevirtual 341, 3) := by decide +kernel
theorem dX11_after__10 : decode cX11_after_ 10 = .ok (.ifCond .eq 31, 3) := by decide +kernel
theorem dX11_after__13 : decode cX11_after_ 13 = .ok (.iload_n 2, 1) := by decide +kernel
theorem dX11_after__14 : decode cX11_after_ 14 = .ok (.invokestatic 345, 3) := by decide +kernel
theorem dX11_after__17 : decode cX11_after_ 17 = .ok (.ifCond .eq 24, 3) := by decide +kernel
theorem dX11_after__20 : decode cX11_after_ 20 = .ok (.iload 6, 2) := by decide +kernel
theorem dX11_after__22 : decode cX11_after_ 22 = .ok (.iconst 0, 1) := by decide +kernel
theorem dX11_after__23 : decode cX11_after_ 23 = .ok (.bipush 6, 2) := by decide +kernel
theorem dX11_after__25 : decode cX11_after_ 25 = .ok (.invokestatic 145, 3) := by decide +kernel
theorem dX11_after__28 : decode cX11_after_ 28 = .ok (.ifCond .eq 13, 3) := by decide +kernel
theorem dX11_after__31 : decode cX11_after_ 31 = .ok (.iload 7, 2) := by decide +kernel
theorem dX11_after__33 : decode cX11_after_ 33 = .ok (.iconst 0, 1) := by decide +kernel
theorem dX11_after__34 : decode cX11_after_ 34 = .ok (.iconst 4, 1) := by decide +kernel
theorem dX11_after__35 : decode cX11_after_ 35 = .ok (.invokestatic 145, 3) := by decide +kernel
theorem dX11_after__38 : decode cX11_after_ 38 = .ok (.ifCond .ne 7, 3) := by decide +kernel
theorem dX11_after__41 : decode cX11_after_ 41 = .ok (.ldc2_w 354, 3) := by decide +kernel
theorem dX11_after__44 : decode cX11_after_ 44 = .ok (.lreturn, 1) := by decide +kernel
theorem dX11_after__45 : decode cX11_after_ 45 = .ok (.aload_n 0, 1) := by decide +kernel
theorem dX11_after__46 : decode cX11_after_ 46 = .ok (.iload_n 1, 1) := by decide +kernel
theorem dX11_after__47 : decode cX11_after_ 47 = .ok (.invokevirtual 348, 3) := by decide +kernel
theorem dX11_after__50 : decode cX11_after_ 50 = .ok (.aload_n 0, 1) := by decide +kernel
theorem dX11_after__51 : decode cX11_after_ 51 = .ok (.iload_n 2, 1) := by decide +kernel
theorem dX11_after__52 : decode cX11_after_ 52 = .ok (.iload_n 3, 1) := by decide +kernel
theorem dX11_after__53 : decode cX11_after_ 53 = .ok (.iload 4, 2) := by decide +kernel
theorem dX11_after__55 : decode cX11_after_ 55 = .ok (.iload 5, 2) := by decide +kernel
theorem dX11_after__57 : decode cX11_after_ 57 = .ok (.iload 6, 2) := by decide +kernel
theorem dX11_after__59 : decode cX11_after_ 59 = .ok (.invokevirtual 363, 3) := by decide +kernel
theorem dX11_after__62 : decode cX11_after_ 62 = .ok (.istore 9, 2) := by decide +kernel
theorem dX11_after__64 : decode cX11_after_ 64 = .ok (.lconst 0, 1) := by decide +kernel
theorem dX11_after__65 : decode cX11_after_ 65 = .ok (.lstore 10, 2) := by decide +kernel
theorem dX11_after__67 : decode cX11_after_ 67 = .ok (.iconst 0, 1) := by decide +kernel
theorem dX11_after__68 : decode cX11_after_ 68 = .ok (.istore 12, 2) := by decide +kernel
theorem dX11_after__70 : decode cX11_after_ 70 = .ok (.iload 12, 2) := by decide +kernel
theorem dX11_after__72 : decode cX11_after_ 72 = .ok (.bipush 41, 2) := by decide +kernel
theorem dX11_after__74 : decode cX11_after_ 74 = .ok (.if_icmp .ge 138, 3) := by decide +kernel
theorem dX11_after__77 : decode cX11_after_ 77 = .ok (.aload_n 0, 1) := by decide +kernel
theorem dX11_after__78 : decode cX11_after_ 78 = .ok (.getfield 96, 3) := by decide +kernel
theorem dX11_after__81 : decode cX11_after_ 81 = .ok (.iload 12, 2) := by decide +kernel
theorem dX11_after__83 : decode cX11_after_ 83 = .ok (.laload, 1) := by decide +kernel
theorem dX11_after__84 : decode cX11_after_ 84 = .ok (.lconst 0, 1) := by decide +kernel
theorem dX11_after__85 : decode cX11_after_ 85 = .ok (.lcmp, 1) := by decide +kernel
theorem dX11_after__86 : decode cX11_after_ 86 = .ok (.ifCond .ne 6, 3) := by decide +kernel
theorem dX11_after__89 : decode cX11_after_ 89 = .ok (.goto 117, 3) := by decide +kernel
theorem dX11_after__92 : decode cX11_after_ 92 = .ok (.aload_n 0, 1) := by decide +kernel
theorem dX11_after__93 : decode cX11_after_ 93 = .ok (.iload_n 2, 1) := by decide +kernel
theorem dX11_after__94 : decode cX11_after_ 94 = .ok (.iload_n 3, 1) := by decide +kernel
theorem dX11_after__95 : decode cX11_after_ 95 = .ok (.iload 9, 2) := by decide +kernel
theorem dX11_after__97 : decode cX11_after_ 97 = .ok (.iload 12, 2) := by decide +kernel
theorem dX11_after__99 : decode cX11_after_ 99 = .ok (.invokevirtual 351, 3) := by decide +kernel
theorem dX11_after__102 : decode cX11_after_ 102 = .ok (.istore 13, 2) := by decide +kernel
theorem dX11_after__104 : decode cX11_after_ 104 = .ok (.iload 7, 2) := by decide +kernel
theorem dX11_after__106 : decode cX11_after_ 106 = .ok (.ifCond .ne 18, 3) := by decide +kernel
theorem dX11_after__109 : decode cX11_after_ 109 = .ok (.iload 12, 2) := by decide +kernel
theorem dX11_after__111 : decode cX11_after_ 111 = .ok (.iload 8, 2) := by decide +kernel
theorem dX11_after__113 : decode cX11_after_ 113 = .ok (.if_icmp .gt 7, 3) := by decide +kernel
theorem dX11_after__116 : decode cX11_after_ 116 = .ok (.iconst 1, 1) := by decide +kernel
theorem dX11_after__117 : decode cX11_after_ 117 = .ok (.goto 52, 3) := by decide +kernel
theorem dX11_after__120 : decode cX11_after_ 120 = .ok (.iconst 0, 1) := by decide +kernel
theorem dX11_after__121 : decode cX11_after_ 121 = .ok (.goto 48, 3) := by decide +kernel
theorem dX11_after__124 : decode cX11_after_ 124 = .ok (.iload 7, 2) := by decide +kernel
theorem dX11_after__126 : decode cX11_after_ 126 = .ok (.iconst 1, 1) := by decide +kernel
theorem dX11_after__127 : decode cX11_after_ 127 = .ok (.if_icmp .ne 24, 3) := by decide +kernel
theorem dX11_after__130 : decode cX11_after_ 130 = .ok (.aload_n 0, 1) := by decide +kernel
theorem dX11_after__131 : decode cX11_after_ 131 = .ok (.iload_n 2, 1) := by decide +kernel
theorem dX11_after__132 : decode cX11_after_ 132 = .ok (.iload_n 3, 1) := by decide +kernel
theorem dX11_after__133 : decode cX11_after_ 133 = .ok (.iload 9, 2) := by decide +kernel
theorem dX11_after__135 : decode cX11_after_ 135 = .ok (.iload 12, 2) := by decide +kernel
theorem dX11_after__137 : decode cX11_after_ 137 = .ok (.invokevirtual 319, 3) := by decide +kernel
theorem dX11_after__140 : decode cX11_after_ 140 = .ok (.ifCond .ne 7, 3) := by decide +kernel
theorem dX11_after__143 : decode cX11_after_ 143 = .ok (.iconst 1, 1) := by decide +kernel
theorem dX11_after__144 : decode cX11_after_ 144 = .ok (.goto 25, 3) := by decide +kernel
theorem dX11_after__147 : decode cX11_after_ 147 = .ok (.iconst 0, 1) := by decide +kernel
theorem dX11_after__148 : decode cX11_after_ 148 = .ok (.goto 21, 3) := by decide +kernel
theorem dX11_after__151 : decode cX11_after_ 151 = .ok (.iload 7, 2) := by decide +kernel
theorem dX11_after__153 : decode cX11_after_ 153 = .ok (.iconst 2, 1) := by decide +kernel
theorem dX11_after__154 : decode cX11_after_ 154 = .ok (.if_icmp .ne 10, 3) := by decide +kernel
theorem dX11_after__157 : decode cX11_after_ 157 = .ok (.iload 13, 2) := by decide +kernel
theorem dX11_after__159 : decode cX11_after_ 159 = .ok (.iload 8, 2) := by decide +kernel
theorem dX11_after__161 : decode cX11_after_ 161 = .ok (.if_icmp .lt 7, 3) := by decide +kernel
theorem dX11_after__164 : decode cX11_after_ 164 = .ok (.iconst 1, 1) := by decide +kernel
theorem dX11_after__165 : decode cX11_after_ 165 = .ok (.goto 4, 3) := by decide +kernel
theorem dX11_after__168 : decode cX11_after_ 168 = .ok (.iconst 0, 1) := by decide +kernel
theorem dX11_after__169 : decode cX11_after_ 169 = .ok (.istore 14, 2) := by decide +kernel
theorem dX11_after__171 : decode cX11_after_ 171 = .ok (.lload 10, 2) := by decide +kernel
theorem dX11_after__173 : decode cX11_after_ 173 = .ok (.iload 14, 2) := by decide +kernel
theorem dX11_after__175 : decode cX11_after_ 175 = .ok (.ifCond .eq 27, 3) := by decide +kernel
theorem dX11_after__178 : decode cX11_after_ 178 = .ok (.aload_n 0, 1) := by decide +kernel
theorem dX11_after__179 : decode cX11_after_ 179 = .ok (.getfield 96, 3) := by decide +kernel
theorem dX11_after__182 : decode cX11_after_ 182 = .ok (.iload 12, 2) := by decide +kernel
theorem dX11_after__184 : decode cX11_after_ 184 = .ok (.laload, 1) := by decide +kernel
theorem dX11_after__185 : decode cX11_after_ 185 = .ok (.iload 7, 2) := by decide +kernel
theorem dX11_after__187 : decode cX11_after_ 187 = .ok (.iconst 3, 1) := by decide +kernel
theorem dX11_after__188 : decode cX11_after_ 188 = .ok (.if_icmp .ne 8, 3) := by decide +kernel
theorem dX11_after__191 : decode cX11_after_ 191 = .ok (.iload 13, 2) := by decide +kernel
theorem dX11_after__193 : decode cX11_after_ 193 = .ok (.goto 4, 3) := by decide +kernel
theorem dX11_after__196 : decode cX11_after_ 196 = .ok (.iconst 1, 1) := by decide +kernel
theorem dX11_after__197 : decode cX11_after_ 197 = .ok (.i2l, 1) := by decide +kernel
theorem dX11_after__198 : decode cX11_after_ 198 = .ok (.lmul, 1) := by decide +kernel
theorem dX11_after__199 : decode cX11_after_ 199 = .ok (.goto 4, 3) := by decide +kernel
theorem dX11_after__202 : decode cX11_after_ 202 = .ok (.lconst 0, 1) := by decide +kernel
theorem dX11_after__203 : decode cX11_after_ 203 = .ok (.ladd, 1) := by decide +kernel
theorem dX11_after__204 : decode cX11_after_ 204 = .ok (.lstore 10, 2) := by decide +kernel
theorem dX11_after__206 : decode cX11_after_ 206 = .ok (.iinc 12 1, 3) := by decide +kernel
theorem dX11_after__209 : decode cX11_after_ 209 = .ok (.goto (-139), 3) := by decide +kernel
theorem dX11_after__212 : decode cX11_after_ 212 = .ok (.lload 10, 2) := by decide +kernel
theorem dX11_after__214 : decode cX11_after_ 214 = .ok (.lreturn, 1) := by decide +kernel
theorem dX11_row_0 : decode cX11_row 0 = .ok (.iload_n 1, 1) := by decide +kernel
theorem dX11_row_1 : decode cX11_row 1 = .ok (.iconst 0, 1) := by decide +kernel
theorem dX11_row_2 : decode cX11_row 2 = .ok (.iconst 1, 1) := by decide +kernel
theorem dX11_row_3 : decode cX11_row 3 = .ok (.invokestatic 145, 3) := by decide +kernel
theorem dX11_row_6 : decode cX11_row 6 = .ok (.ifCond .eq 24, 3) := by decide +kernel
theorem dX11_row_9 : decode cX11_row 9 = .ok (.iload_n 2, 1) := by decide +kernel
theorem dX11_row_10 : decode cX11_row 10 = .ok (.iconst 0, 1) := by decide +kernel
theorem dX11_row_11 : decode cX11_row 11 = .ok (.bipush 20, 2) := by decide +kernel
theorem dX11_row_13 : decode cX11_row 13 = .ok (.invokestatic 145, 3) := by decide +kernel
theorem dX11_row_16 : decode cX11_row 16 = .ok (.ifCond .eq 14, 3) := by decide +kernel
theorem dX11_row_19 : decode cX11_row 19 = .ok (.aload_n 0, 1) := by decide +kernel
theorem dX11_row_20 : decode cX11_row 20 = .ok (.getfield 105, 3) := by decide +kernel
theorem dX11_row_23 : decode cX11_row 23 = .ok (.iload_n 1, 1) := by decide +kernel
theorem dX11_row_24 : decode cX11_row 24 = .ok (.iaload, 1) := by decide +kernel
theorem dX11_row_25 : decode cX11_row 25 = .ok (.bipush 40, 2) := by decide +kernel
theorem dX11_row_27 : decode cX11_row 27 = .ok (.if_icmp .ne 5, 3) := by decide +kernel
theorem dX11_row_30 : decode cX11_row 30 = .ok (.iconst (-1), 1) := by decide +kernel
theorem dX11_row_31 : decode cX11_row 31 = .ok (.ireturn, 1) := by decide +kernel
theorem dX11_row_32 : decode cX11_row 32 = .ok (.aload_n 0, 1) := by decide +kernel
theorem dX11_row_33 : decode cX11_row 33 = .ok (.getfield 102, 3) := by decide +kernel
theorem dX11_row_36 : decode cX11_row 36 = .ok (.bipush 40, 2) := by decide +kernel
theorem dX11_row_38 : decode cX11_row 38 = .ok (.iload_n 1, 1) := by decide +kernel
theorem dX11_row_39 : decode cX11_row 39 = .ok (.imul, 1) := by decide +kernel
theorem dX11_row_40 : decode cX11_row 40 = .ok (.aload_n 0, 1) := by decide +kernel
theorem dX11_row_41 : decode cX11_row 41 = .ok (.getfield 105, 3) := by decide +kernel
theorem dX11_row_44 : decode cX11_row 44 = .ok (.iload_n 1, 1) := by decide +kernel
theorem dX11_row_45 : decode cX11_row 45 = .ok (.iaload, 1) := by decide +kernel
theorem dX11_row_46 : decode cX11_row 46 = .ok (.iadd, 1) := by decide +kernel
theorem dX11_row_47 : decode cX11_row 47 = .ok (.iload_n 2, 1) := by decide +kernel
theorem dX11_row_48 : decode cX11_row 48 = .ok (.iastore, 1) := by decide +kernel
theorem dX11_row_49 : decode cX11_row 49 = .ok (.aload_n 0, 1) := by decide +kernel
theorem dX11_row_50 : decode cX11_row 50 = .ok (.getfield 105, 3) := by decide +kernel
theorem dX11_row_53 : decode cX11_row 53 = .ok (.iload_n 1, 1) := by decide +kernel
theorem dX11_row_54 : decode cX11_row 54 = .ok (.dup2, 1) := by decide +kernel
theorem dX11_row_55 : decode cX11_row 55 = .ok (.iaload, 1) := by decide +kernel
theorem dX11_row_56 : decode cX11_row 56 = .ok (.iconst 1, 1) := by decide +kernel
theorem dX11_row_57 : decode cX11_row 57 = .ok (.iadd, 1) := by decide +kernel
theorem dX11_row_58 : decode cX11_row 58 = .ok (.iastore, 1) := by decide +kernel
theorem dX11_row_59 : decode cX11_row 59 = .ok (.aload_n 0, 1) := by decide +kernel
theorem dX11_row_60 : decode cX11_row 60 = .ok (.getfield 105, 3) := by decide +kernel
theorem dX11_row_63 : decode cX11_row 63 = .ok (.iload_n 1, 1) := by decide +kernel
theorem dX11_row_64 : decode cX11_row 64 = .ok (.iaload, 1) := by decide +kernel
theorem dX11_row_65 : decode cX11_row 65 = .ok (.ireturn, 1) := by decide +kernel
theorem dX11_clear_0 : decode cX11_clear 0 = .ok (.iload_n 1, 1) := by decide +kernel
theorem dX11_clear_1 : decode cX11_clear 1 = .ok (.iconst 0, 1) := by decide +kernel
theorem dX11_clear_2 : decode cX11_clear 2 = .ok (.iconst 1, 1) := by decide +kernel
theorem dX11_clear_3 : decode cX11_clear 3 = .ok (.invokestatic 145, 3) := by decide +kernel
theorem dX11_clear_6 : decode cX11_clear 6 = .ok (.ifCond .ne 5, 3) := by decide +kernel
theorem dX11_clear_9 : decode cX11_clear 9 = .ok (.iconst (-1), 1) := by decide +kernel
theorem dX11_clear_10 : decode cX11_clear 10 = .ok (.ireturn, 1) := by decide +kernel
theorem dX11_clear_11 : decode cX11_clear 11 = .ok (.aload_n 0, 1) := by decide +kernel
theorem dX11_clear_12 : decode cX11_clear 12 = .ok (.getfield 105, 3) := by decide +kernel
theorem dX11_clear_15 : decode cX11_clear 15 = .ok (.iload_n 1, 1) := by decide +kernel
theorem dX11_clear_16 : decode cX11_clear 16 = .ok (.iaload, 1) := by decide +kernel
theorem dX11_clear_17 : decode cX11_clear 17 = .ok (.istore_n 2, 1) := by decide +kernel
theorem dX11_clear_18 : decode cX11_clear 18 = .ok (.aload_n 0, 1) := by decide +kernel
theorem dX11_clear_19 : decode cX11_clear 19 = .ok (.getfield 105, 3) := by decide +kernel
theorem dX11_clear_22 : decode cX11_clear 22 = .ok (.iload_n 1, 1) := by decide +kernel
theorem dX11_clear_23 : decode cX11_clear 23 = .ok (.iconst 0, 1) := by decide +kernel
theorem dX11_clear_24 : decode cX11_clear 24 = .ok (.iastore, 1) := by decide +kernel
theorem dX11_clear_25 : decode cX11_clear 25 = .ok (.iload_n 2, 1) := by decide +kernel
theorem dX11_clear_26 : decode cX11_clear 26 = .ok (.ireturn, 1) := by decide +kernel
theorem dX11_granary_0 : decode cX11_granary 0 = .ok (.aload_n 0, 1) := by decide +kernel
theorem dX11_granary_1 : decode cX11_granary 1 = .ok (.iload_n 1, 1) := by decide +kernel
theorem dX11_granary_2 : decode cX11_granary 2 = .ok (.invokevirtual 257, 3) := by decide +kernel
theorem dX11_granary_5 : decode cX11_granary 5 = .ok (.ifCond .eq 34, 3) := by decide +kernel
theorem dX11_granary_8 : decode cX11_granary 8 = .ok (.iload_n 2, 1) := by decide +kernel
theorem dX11_granary_9 : decode cX11_granary 9 = .ok (.iconst 0, 1) := by decide +kernel
theorem dX11_granary_10 : decode cX11_granary 10 = .ok (.bipush 99, 2) := by decide +kernel
theorem dX11_granary_12 : decode cX11_granary 12 = .ok (.invokestatic 145, 3) := by decide +kernel
theorem dX11_granary_15 : decode cX11_granary 15 = .ok (.ifCond .eq 24, 3) := by decide +kernel
theorem dX11_granary_18 : decode cX11_granary 18 = .ok (.iload_n 3, 1) := by decide +kernel
theorem dX11_granary_19 : decode cX11_granary 19 = .ok (.iload_n 2, 1) := by decide +kernel
theorem dX11_granary_20 : decode cX11_granary 20 = .ok (.bipush 99, 2) := by decide +kernel
theorem dX11_granary_22 : decode cX11_granary 22 = .ok (.invokestatic 145, 3) := by decide +kernel
theorem dX11_granary_25 : decode cX11_granary 25 = .ok (.ifCond .eq 14, 3) := by decide +kernel
theorem dX11_granary_28 : decode cX11_granary 28 = .ok (.iload 4, 2) := by decide +kernel
theorem dX11_granary_30 : decode cX11_granary 30 = .ok (.iconst 0, 1) := by decide +kernel
theorem dX11_granary_31 : decode cX11_granary 31 = .ok (.bipush 20, 2) := by decide +kernel
theorem dX11_granary_33 : decode cX11_granary 33 = .ok (.invokestatic 145, 3) := by decide +kernel
theorem dX11_granary_36 : decode cX11_granary 36 = .ok (.ifCond .ne 5, 3) := by decide +kernel
theorem dX11_granary_39 : decode cX11_granary 39 = .ok (.iconst 0, 1) := by decide +kernel
theorem dX11_granary_40 : decode cX11_granary 40 = .ok (.ireturn, 1) := by decide +kernel
theorem dX11_granary_41 : decode cX11_granary 41 = .ok (.aload_n 0, 1) := by decide +kernel
theorem dX11_granary_42 : decode cX11_granary 42 = .ok (.getfield 52, 3) := by decide +kernel
theorem dX11_granary_45 : decode cX11_granary 45 = .ok (.iload_n 1, 1) := by decide +kernel
theorem dX11_granary_46 : decode cX11_granary 46 = .ok (.iload_n 2, 1) := by decide +kernel
theorem dX11_granary_47 : decode cX11_granary 47 = .ok (.iastore, 1) := by decide +kernel
theorem dX11_granary_48 : decode cX11_granary 48 = .ok (.aload_n 0, 1) := by decide +kernel
theorem dX11_granary_49 : decode cX11_granary 49 = .ok (.getfield 55, 3) := by decide +kernel
theorem dX11_granary_52 : decode cX11_granary 52 = .ok (.iload_n 1, 1) := by decide +kernel
theorem dX11_granary_53 : decode cX11_granary 53 = .ok (.iload_n 3, 1) := by decide +kernel
theorem dX11_granary_54 : decode cX11_granary 54 = .ok (.iastore, 1) := by decide +kernel
theorem dX11_granary_55 : decode cX11_granary 55 = .ok (.aload_n 0, 1) := by decide +kernel
theorem dX11_granary_56 : decode cX11_granary 56 = .ok (.getfield 58, 3) := by decide +kernel
theorem dX11_granary_59 : decode cX11_granary 59 = .ok (.iload_n 1, 1) := by decide +kernel
theorem dX11_granary_60 : decode cX11_granary 60 = .ok (.iload 4, 2) := by decide +kernel
theorem dX11_granary_62 : decode cX11_granary 62 = .ok (.iastore, 1) := by decide +kernel
theorem dX11_granary_63 : decode cX11_granary 63 = .ok (.iconst 1, 1) := by decide +kernel
theorem dX11_granary_64 : decode cX11_granary 64 = .ok (.ireturn, 1) := by decide +kernel
theorem dX11_mayRun_0 : decode cX11_mayRun 0 = .ok (.aload_n 0, 1) := by decide +kernel
theorem dX11_mayRun_1 : decode cX11_mayRun 1 = .ok (.iload_n 1, 1) := by decide +kernel
theorem dX11_mayRun_2 : decode cX11_mayRun 2 = .ok (.invokevirtual 257, 3) := by decide +kernel
theorem dX11_mayRun_5 : decode cX11_mayRun 5 = .ok (.ifCond .eq 35, 3) := by decide +kernel
theorem dX11_mayRun_8 : decode cX11_mayRun 8 = .ok (.iload_n 2, 1) := by decide +kernel
theorem dX11_mayRun_9 : decode cX11_mayRun 9 = .ok (.invokestatic 345, 3) := by decide +kernel
theorem dX11_mayRun_12 : decode cX11_mayRun 12 = .ok (.ifCond .eq 28, 3) := by decide +kernel
theorem dX11_mayRun_15 : decode cX11_mayRun 15 = .ok (.iload_n 3, 1) := by decide +kernel
theorem dX11_mayRun_16 : decode cX11_mayRun 16 = .ok (.iconst 1, 1) := by decide +kernel
theorem dX11_mayRun_17 : decode cX11_mayRun 17 = .ok (.bipush 12, 2) := by decide +kernel
theorem dX11_mayRun_19 : decode cX11_mayRun 19 = .ok (.invokestatic 145, 3) := by decide +kernel
theorem dX11_mayRun_22 : decode cX11_mayRun 22 = .ok (.ifCond .eq 18, 3) := by decide +kernel
theorem dX11_mayRun_25 : decode cX11_mayRun 25 = .ok (.iload 4, 2) := by decide +kernel
theorem dX11_mayRun_27 : decode cX11_mayRun 27 = .ok (.iconst 0, 1) := by decide +kernel
theorem dX11_mayRun_28 : decode cX11_mayRun 28 = .ok (.bipush 20, 2) := by decide +kernel
theorem dX11_mayRun_30 : decode cX11_mayRun 30 = .ok (.invokestatic 145, 3) := by decide +kernel
theorem dX11_mayRun_33 : decode cX11_mayRun 33 = .ok (.ifCond .eq 7, 3) := by decide +kernel
theorem dX11_mayRun_36 : decode cX11_mayRun 36 = .ok (.iconst 1, 1) := by decide +kernel
theorem dX11_mayRun_37 : decode cX11_mayRun 37 = .ok (.goto 4, 3) := by decide +kernel
theorem dX11_mayRun_40 : decode cX11_mayRun 40 = .ok (.iconst 0, 1) := by decide +kernel
theorem dX11_mayRun_41 : decode cX11_mayRun 41 = .ok (.ireturn, 1) := by decide +kernel
theorem dX11_go_0 : decode cX11_go 0 = .ok (.aload_n 0, 1) := by decide +kernel
theorem dX11_go_1 : decode cX11_go 1 = .ok (.iload_n 1, 1) := by decide +kernel
theorem dX11_go_2 : decode cX11_go 2 = .ok (.invokevirtual 348, 3) := by decide +kernel
theorem dX11_go_5 : decode cX11_go 5 = .ok (.iload 4, 2) := by decide +kernel
theorem dX11_go_7 : decode cX11_go 7 = .ok (.istore 5, 2) := by decide +kernel
theorem dX11_go_9 : decode cX11_go 9 = .ok (.iconst 0, 1) := by decide +kernel
theorem dX11_go_10 : decode cX11_go 10 = .ok (.istore 6, 2) := by decide +kernel
theorem dX11_go_12 : decode cX11_go 12 = .ok (.iconst 0, 1) := by decide +kernel
theorem dX11_go_13 : decode cX11_go 13 = .ok (.istore 7, 2) := by decide +kernel
theorem dX11_go_15 : decode cX11_go 15 = .ok (.aload_n 0, 1) := by decide +kernel
theorem dX11_go_16 : decode cX11_go 16 = .ok (.iconst 0, 1) := by decide +kernel
theorem dX11_go_17 : decode cX11_go 17 = .ok (.putfield 367, 3) := by decide +kernel
theorem dX11_go_20 : decode cX11_go 20 = .ok (.iconst 0, 1) := by decide +kernel
theorem dX11_go_21 : decode cX11_go 21 = .ok (.istore 8, 2) := by decide +kernel
theorem dX11_go_23 : decode cX11_go 23 = .ok (.iload 8, 2) := by decide +kernel
theorem dX11_go_25 : decode cX11_go 25 = .ok (.aload_n 0, 1) := by decide +kernel
theorem dX11_go_26 : decode cX11_go 26 = .ok (.getfield 105, 3) := by decide +kernel
theorem dX11_go_29 : decode cX11_go 29 = .ok (.iconst 0, 1) := by decide +kernel
theorem dX11_go_30 : decode cX11_go 30 = .ok (.iaload, 1) := by decide +kernel
theorem dX11_go_31 : decode cX11_go 31 = .ok (.if_icmp .ge 170, 3) := by decide +kernel
theorem dX11_go_34 : decode cX11_go 34 = .ok (.iload 8, 2) := by decide +kernel
theorem dX11_go_36 : decode cX11_go 36 = .ok (.aload_n 0, 1) := by decide +kernel
theorem dX11_go_37 : decode cX11_go 37 = .ok (.getfield 13, 3) := by decide +kernel
theorem dX11_go_40 : decode cX11_go 40 = .ok (.iload_n 1, 1) := by decide +kernel
theorem dX11_go_41 : decode cX11_go 41 = .ok (.iaload, 1) := by decide +kernel
theorem dX11_go_42 : decode cX11_go 42 = .ok (.irem, 1) := by decide +kernel
theorem dX11_go_43 : decode cX11_go 43 = .ok (.istore 9, 2) := by decide +kernel
theorem dX11_go_45 : decode cX11_go 45 = .ok (.iload 5, 2) := by decide +kernel
theorem dX11_go_47 : decode cX11_go 47 = .ok (.aload_n 0, 1) := by decide +kernel
theorem dX11_go_48 : decode cX11_go 48 = .ok (.getfield 102, 3) := by decide +kernel
theorem dX11_go_51 : decode cX11_go 51 = .ok (.iload 8, 2) := by decide +kernel
theorem dX11_go_53 : decode cX11_go 53 = .ok (.iaload, 1) := by decide +kernel
theorem dX11_go_54 : decode cX11_go 54 = .ok (.iadd, 1) := by decide +kernel
theorem dX11_go_55 : decode cX11_go 55 = .ok (.istore 10, 2) := by decide +kernel
theorem dX11_go_57 : decode cX11_go 57 = .ok (.aload_n 0, 1) := by decide +kernel
theorem dX11_go_58 : decode cX11_go 58 = .ok (.iload_n 2, 1) := by decide +kernel
theorem dX11_go_59 : decode cX11_go 59 = .ok (.iload_n 3, 1) := by decide +kernel
theorem dX11_go_60 : decode cX11_go 60 = .ok (.iload 9, 2) := by decide +kernel
theorem dX11_go_62 : decode cX11_go 62 = .ok (.iload 10, 2) := by decide +kernel
theorem dX11_go_64 : decode cX11_go 64 = .ok (.invokevirtual 319, 3) := by decide +kernel
theorem dX11_go_67 : decode cX11_go 67 = .ok (.istore 11, 2) := by decide +kernel
theorem dX11_go_69 : decode cX11_go 69 = .ok (.iload_n 2, 1) := by decide +kernel
theorem dX11_go_70 : decode cX11_go 70 = .ok (.iconst 3, 1) := by decide +kernel
theorem dX11_go_71 : decode cX11_go 71 = .ok (.if_icmp .ne 16, 3) := by decide +kernel
theorem dX11_go_74 : decode cX11_go 74 = .ok (.aload_n 0, 1) := by decide +kernel
theorem dX11_go_75 : decode cX11_go 75 = .ok (.iload_n 2, 1) := by decide +kernel
theorem dX11_go_76 : decode cX11_go 76 = .ok (.iload_n 3, 1) := by decide +kernel
theorem dX11_go_77 : decode cX11_go 77 = .ok (.iload 9, 2) := by decide +kernel
theorem dX11_go_79 : decode cX11_go 79 = .ok (.iload 10, 2) := by decide +kernel
theorem dX11_go_81 : decode cX11_go 81 = .ok (.invokevirtual 335, 3) := by decide +kernel
theorem dX11_go_84 : decode cX11_go 84 = .ok (.goto 8, 3) := by decide +kernel
theorem dX11_go_87 : decode cX11_go 87 = .ok (.iload 10, 2) := by decide +kernel
theorem dX11_go_89 : decode cX11_go 89 = .ok (.iload 11, 2) := by decide +kernel
theorem dX11_go_91 : decode cX11_go 91 = .ok (.isub, 1) := by decide +kernel
theorem dX11_go_92 : decode cX11_go 92 = .ok (.istore 12, 2) := by decide +kernel
theorem dX11_go_94 : decode cX11_go 94 = .ok (.iload_n 2, 1) := by decide +kernel
theorem dX11_go_95 : decode cX11_go 95 = .ok (.iconst 3, 1) := by decide +kernel
theorem dX11_go_96 : decode cX11_go 96 = .ok (.if_icmp .eq 27, 3) := by decide +kernel
theorem dX11_go_99 : decode cX11_go 99 = .ok (.iload 6, 2) := by decide +kernel
theorem dX11_go_101 : decode cX11_go 101 = .ok (.istore 13, 2) := by decide +kernel
theorem dX11_go_103 : decode cX11_go 103 = .ok (.aload_n 0, 1) := by decide +kernel
theorem dX11_go_104 : decode cX11_go 104 = .ok (.iload 12, 2) := by decide +kernel
theorem dX11_go_106 : decode cX11_go 106 = .ok (.iload 6, 2) := by decide +kernel
theorem dX11_go_108 : decode cX11_go 108 = .ok (.invokevirtual 370, 3) := by decide +kernel
theorem dX11_go_111 : decode cX11_go 111 = .ok (.istore 6, 2) := by decide +kernel
theorem dX11_go_113 : decode cX11_go 113 = .ok (.iload 12, 2) := by decide +kernel
theorem dX11_go_115 : decode cX11_go 115 = .ok (.iload 6, 2) := by decide +kernel
theorem dX11_go_117 : decode cX11_go 117 = .ok (.iload 13, 2) := by decide +kernel
theorem dX11_go_119 : decode cX11_go 119 = .ok (.isub, 1) := by decide +kernel
theorem dX11_go_120 : decode cX11_go 120 = .ok (.isub, 1) := by decide +kernel
theorem dX11_go_121 : decode cX11_go 121 = .ok (.istore 12, 2) := by decide +kernel
theorem dX11_go_123 : decode cX11_go 123 = .ok (.iload_n 2, 1) := by decide +kernel
theorem dX11_go_124 : decode cX11_go 124 = .ok (.iconst 3, 1) := by decide +kernel
theorem dX11_go_125 : decode cX11_go 125 = .ok (.if_icmp .ne 16, 3) := by decide +kernel
theorem dX11_go_128 : decode cX11_go 128 = .ok (.aload_n 0, 1) := by decide +kernel
theorem dX11_go_129 : decode cX11_go 129 = .ok (.iload_n 2, 1) := by decide +kernel
theorem dX11_go_130 : decode cX11_go 130 = .ok (.iload_n 3, 1) := by decide +kernel
theorem dX11_go_131 : decode cX11_go 131 = .ok (.iload 9, 2) := by decide +kernel
theorem dX11_go_133 : decode cX11_go 133 = .ok (.iload 10, 2) := by decide +kernel
theorem dX11_go_135 : decode cX11_go 135 = .ok (.invokevirtual 351, 3) := by decide +kernel
theorem dX11_go_138 : decode cX11_go 138 = .ok (.goto 10, 3) := by decide +kernel
theorem dX11_go_141 : decode cX11_go 141 = .ok (.aload_n 0, 1) := by decide +kernel
theorem dX11_go_142 : decode cX11_go 142 = .ok (.iload_n 1, 1) := by decide +kernel
theorem dX11_go_143 : decode cX11_go 143 = .ok (.iload 12, 2) := by decide +kernel
theorem dX11_go_145 : decode cX11_go 145 = .ok (.invokevirtual 269, 3) := by decide +kernel
theorem dX11_go_148 : decode cX11_go 148 = .ok (.istore 13, 2) := by decide +kernel
theorem dX11_go_150 : decode cX11_go 150 = .ok (.aload_n 0, 1) := by decide +kernel
theorem dX11_go_151 : decode cX11_go 151 = .ok (.aload_n 0, 1) := by decide +kernel
theorem dX11_go_152 : decode cX11_go 152 = .ok (.getfield 111, 3) := by decide +kernel
theorem dX11_go_155 : decode cX11_go 155 = .ok (.bipush 7, 2) := by decide +kernel
theorem dX11_go_157 : decode cX11_go 157 = .ok (.iload 8, 2) := by decide +kernel
theorem dX11_go_159 : decode cX11_go 159 = .ok (.imul, 1) := by decide +kernel
theorem dX11_go_160 : decode cX11_go 160 = .ok (.iload 10, 2) := by decide +kernel
theorem dX11_go_162 : decode cX11_go 162 = .ok (.iload 11, 2) := by decide +kernel
theorem dX11_go_164 : decode cX11_go 164 = .ok (.iload 12, 2) := by decide +kernel
theorem dX11_go_166 : decode cX11_go 166 = .ok (.iload 13, 2) := by decide +kernel
theorem dX11_go_168 : decode cX11_go 168 = .ok (.iload 6, 2) := by decide +kernel
theorem dX11_go_170 : decode cX11_go 170 = .ok (.iconst 0, 1) := by decide +kernel
theorem dX11_go_171 : decode cX11_go 171 = .ok (.invokevirtual 373, 3) := by decide +kernel
theorem dX11_go_174 : decode cX11_go 174 = .ok (.iload 7, 2) := by decide +kernel
theorem dX11_go_176 : decode cX11_go 176 = .ok (.aload_n 0, 1) := by decide +kernel
theorem dX11_go_177 : decode cX11_go 177 = .ok (.iload_n 1, 1) := by decide +kernel
theorem dX11_go_178 : decode cX11_go 178 = .ok (.iload 12, 2) := by decide +kernel
theorem dX11_go_180 : decode cX11_go 180 = .ok (.invokevirtual 272, 3) := by decide +kernel
theorem dX11_go_183 : decode cX11_go 183 = .ok (.iadd, 1) := by decide +kernel
theorem dX11_go_184 : decode cX11_go 184 = .ok (.istore 7, 2) := by decide +kernel
theorem dX11_go_186 : decode cX11_go 186 = .ok (.aload_n 0, 1) := by decide +kernel
theorem dX11_go_187 : decode cX11_go 187 = .ok (.iload_n 1, 1) := by decide +kernel
theorem dX11_go_188 : decode cX11_go 188 = .ok (.iload 11, 2) := by decide +kernel
theorem dX11_go_190 : decode cX11_go 190 = .ok (.invokevirtual 275, 3) := by decide +kernel
theorem dX11_go_193 : decode cX11_go 193 = .ok (.istore 5, 2) := by decide +kernel
theorem dX11_go_195 : decode cX11_go 195 = .ok (.iinc 8 1, 3) := by decide +kernel
theorem dX11_go_198 : decode cX11_go 198 = .ok (.goto (-175), 3) := by decide +kernel
theorem dX11_go_201 : decode cX11_go 201 = .ok (.iload 7, 2) := by decide +kernel
theorem dX11_go_203 : decode cX11_go 203 = .ok (.ireturn, 1) := by decide +kernel
theorem dX11_note_0 : decode cX11_note 0 = .ok (.aload_n 1, 1) := by decide +kernel
theorem dX11_note_1 : decode cX11_note 1 = .ok (.iload_n 2, 1) := by decide +kernel
theorem dX11_note_2 : decode cX11_note 2 = .ok (.iload_n 3, 1) := by decide +kernel
theorem dX11_note_3 : decode cX11_note 3 = .ok (.iastore, 1) := by decide +kernel
theorem dX11_note_4 : decode cX11_note 4 = .ok (.aload_n 1, 1) := by decide +kernel
theorem dX11_note_5 : decode cX11_note 5 = .ok (.iload_n 2, 1) := by decide +kernel
theorem dX11_note_6 : decode cX11_note 6 = .ok (.iconst 1, 1) := by decide +kernel
theorem dX11_note_7 : decode cX11_note 7 = .ok (.iadd, 1) := by decide +kernel
theorem dX11_note_8 : decode cX11_note 8 = .ok (.iload 4, 2) := by decide +kernel
theorem dX11_note_10 : decode cX11_note 10 = .ok (.iastore, 1) := by decide +kernel
theorem dX11_note_11 : decode cX11_note 11 = .ok (.aload_n 1, 1) := by decide +kernel
theorem dX11_note_12 : decode cX11_note 12 = .ok (.iload_n 2, 1) := by decide +kernel
theorem dX11_note_13 : decode cX11_note 13 = .ok (.iconst 2, 1) := by decide +kernel
theorem dX11_note_14 : decode cX11_note 14 = .ok (.iadd, 1) := by decide +kernel
theorem dX11_note_15 : decode cX11_note 15 = .ok (.aload_n 0, 1) := by decide +kernel
theorem dX11_note_16 : decode cX11_note 16 = .ok (.getfield 19, 3) := by decide +kernel
theorem dX11_note_19 : decode cX11_note 19 = .ok (.aload_n 0, 1) := by decide +kernel
theorem dX11_note_20 : decode cX11_note 20 = .ok (.getfield 278, 3) := by decide +kernel
theorem dX11_note_23 : decode cX11_note 23 = .ok (.iaload, 1) := by decide +kernel
theorem dX11_note_24 : decode cX11_note 24 = .ok (.iload 5, 2) := by decide +kernel
theorem dX11_note_26 : decode cX11_note 26 = .ok (.invokestatic 169, 3) := by decide +kernel
theorem dX11_note_29 : decode cX11_note 29 = .ok (.iastore, 1) := by decide +kernel
theorem dX11_note_30 : decode cX11_note 30 = .ok (.aload_n 1, 1) := by decide +kernel
theorem dX11_note_31 : decode cX11_note 31 = .ok (.iload_n 2, 1) := by decide +kernel
theorem dX11_note_32 : decode cX11_note 32 = .ok (.iconst 3, 1) := by decide +kernel
theorem dX11_note_33 : decode cX11_note 33 = .ok (.iadd, 1) := by decide +kernel
theorem dX11_note_34 : decode cX11_note 34 = .ok (.iload 6, 2) := by decide +kernel
theorem dX11_note_36 : decode cX11_note 36 = .ok (.iastore, 1) := by decide +kernel
theorem dX11_note_37 : decode cX11_note 37 = .ok (.aload_n 1, 1) := by decide +kernel
theorem dX11_note_38 : decode cX11_note 38 = .ok (.iload_n 2, 1) := by decide +kernel
theorem dX11_note_39 : decode cX11_note 39 = .ok (.iconst 4, 1) := by decide +kernel
theorem dX11_note_40 : decode cX11_note 40 = .ok (.iadd, 1) := by decide +kernel
theorem dX11_note_41 : decode cX11_note 41 = .ok (.aload_n 0, 1) := by decide +kernel
theorem dX11_note_42 : decode cX11_note 42 = .ok (.aload_n 0, 1) := by decide +kernel
theorem dX11_note_43 : decode cX11_note 43 = .ok (.getfield 278, 3) := by decide +kernel
theorem dX11_note_46 : decode cX11_note 46 = .ok (.iload 5, 2) := by decide +kernel
theorem dX11_note_48 : decode cX11_note 48 = .ok (.invokevirtual 272, 3) := by decide +kernel
theorem dX11_note_51 : decode cX11_note 51 = .ok (.iastore, 1) := by decide +kernel
theorem dX11_note_52 : decode cX11_note 52 = .ok (.aload_n 1, 1) := by decide +kernel
theorem dX11_note_53 : decode cX11_note 53 = .ok (.iload_n 2, 1) := by decide +kernel
theorem dX11_note_54 : decode cX11_note 54 = .ok (.iconst 5, 1) := by decide +kernel
theorem dX11_note_55 : decode cX11_note 55 = .ok (.iadd, 1) := by decide +kernel
theorem dX11_note_56 : decode cX11_note 56 = .ok (.iload 7, 2) := by decide +kernel
theorem dX11_note_58 : decode cX11_note 58 = .ok (.iastore, 1) := by decide +kernel
theorem dX11_note_59 : decode cX11_note 59 = .ok (.aload_n 1, 1) := by decide +kernel
theorem dX11_note_60 : decode cX11_note 60 = .ok (.iload_n 2, 1) := by decide +kernel
theorem dX11_note_61 : decode cX11_note 61 = .ok (.bipush 6, 2) := by decide +kernel
theorem dX11_note_63 : decode cX11_note 63 = .ok (.iadd, 1) := by decide +kernel
theorem dX11_note_64 : decode cX11_note 64 = .ok (.iload 8, 2) := by decide +kernel
theorem dX11_note_66 : decode cX11_note 66 = .ok (.iastore, 1) := by decide +kernel
theorem dX11_note_67 : decode cX11_note 67 = .ok (.return_, 1) := by decide +kernel
theorem dX11_trades_0 : decode cX11_trades 0 = .ok (.iload_n 1, 1) := by decide +kernel
theorem dX11_trades_1 : decode cX11_trades 1 = .ok (.istore_n 3, 1) := by decide +kernel
theorem dX11_trades_2 : decode cX11_trades 2 = .ok (.iload_n 2, 1) := by decide +kernel
theorem dX11_trades_3 : decode cX11_trades 3 = .ok (.istore 4, 2) := by decide +kernel
theorem dX11_trades_5 : decode cX11_trades 5 = .ok (.aload_n 0, 1) := by decide +kernel
theorem dX11_trades_6 : decode cX11_trades 6 = .ok (.aload_n 0, 1) := by decide +kernel
theorem dX11_trades_7 : decode cX11_trades 7 = .ok (.getfield 278, 3) := by decide +kernel
theorem dX11_trades_10 : decode cX11_trades 10 = .ok (.iload_n 3, 1) := by decide +kernel
theorem dX11_trades_11 : decode cX11_trades 11 = .ok (.invokevirtual 269, 3) := by decide +kernel
theorem dX11_trades_14 : decode cX11_trades 14 = .ok (.aload_n 0, 1) := by decide +kernel
theorem dX11_trades_15 : decode cX11_trades 15 = .ok (.getfield 52, 3) := by decide +kernel
theorem dX11_trades_18 : decode cX11_trades 18 = .ok (.aload_n 0, 1) := by decide +kernel
theorem dX11_trades_19 : decode cX11_trades 19 = .ok (.getfield 278, 3) := by decide +kernel
theorem dX11_trades_22 : decode cX11_trades 22 = .ok (.iaload, 1) := by decide +kernel
theorem dX11_trades_23 : decode cX11_trades 23 = .ok (.if_icmp .ge 25, 3) := by decide +kernel
theorem dX11_trades_26 : decode cX11_trades 26 = .ok (.iload 4, 2) := by decide +kernel
theorem dX11_trades_28 : decode cX11_trades 28 = .ok (.aload_n 0, 1) := by decide +kernel
theorem dX11_trades_29 : decode cX11_trades 29 = .ok (.getfield 58, 3) := by decide +kernel
theorem dX11_trades_32 : decode cX11_trades 32 = .ok (.aload_n 0, 1) := by decide +kernel
theorem dX11_trades_33 : decode cX11_trades 33 = .ok (.getfield 278, 3) := by decide +kernel
theorem dX11_trades_36 : decode cX11_trades 36 = .ok (.iaload, 1) := by decide +kernel
theorem dX11_trades_37 : decode cX11_trades 37 = .ok (.if_icmp .ge 11, 3) := by decide +kernel
theorem dX11_trades_40 : decode cX11_trades 40 = .ok (.iload_n 3, 1) := by decide +kernel
theorem dX11_trades_41 : decode cX11_trades 41 = .ok (.ifCond .le 7, 3) := by decide +kernel
theorem dX11_trades_44 : decode cX11_trades 44 = .ok (.iconst 1, 1) := by decide +kernel
theorem dX11_trades_45 : decode cX11_trades 45 = .ok (.goto 4, 3) := by decide +kernel
theorem dX11_trades_48 : decode cX11_trades 48 = .ok (.iconst 0, 1) := by decide +kernel
theorem dX11_trades_49 : decode cX11_trades 49 = .ok (.istore 5, 2) := by decide +kernel
theorem dX11_trades_51 : decode cX11_trades 51 = .ok (.iload 5, 2) := by decide +kernel
theorem dX11_trades_53 : decode cX11_trades 53 = .ok (.ifCond .eq 69, 3) := by decide +kernel
theorem dX11_trades_56 : decode cX11_trades 56 = .ok (.aload_n 0, 1) := by decide +kernel
theorem dX11_trades_57 : decode cX11_trades 57 = .ok (.aload_n 0, 1) := by decide +kernel
theorem dX11_trades_58 : decode cX11_trades 58 = .ok (.getfield 278, 3) := by decide +kernel
theorem dX11_trades_61 : decode cX11_trades 61 = .ok (.iload_n 3, 1) := by decide +kernel
theorem dX11_trades_62 : decode cX11_trades 62 = .ok (.invokevirtual 269, 3) := by decide +kernel
theorem dX11_trades_65 : decode cX11_trades 65 = .ok (.aload_n 0, 1) := by decide +kernel
theorem dX11_trades_66 : decode cX11_trades 66 = .ok (.getfield 52, 3) := by decide +kernel
theorem dX11_trades_69 : decode cX11_trades 69 = .ok (.aload_n 0, 1) := by decide +kernel
theorem dX11_trades_70 : decode cX11_trades 70 = .ok (.getfield 278, 3) := by decide +kernel
theorem dX11_trades_73 : decode cX11_trades 73 = .ok (.iaload, 1) := by decide +kernel
theorem dX11_trades_74 : decode cX11_trades 74 = .ok (.if_icmp .ge 48, 3) := by decide +kernel
theorem dX11_trades_77 : decode cX11_trades 77 = .ok (.iload 4, 2) := by decide +kernel
theorem dX11_trades_79 : decode cX11_trades 79 = .ok (.aload_n 0, 1) := by decide +kernel
theorem dX11_trades_80 : decode cX11_trades 80 = .ok (.getfield 58, 3) := by decide +kernel
theorem dX11_trades_83 : decode cX11_trades 83 = .ok (.aload_n 0, 1) := by decide +kernel
theorem dX11_trades_84 : decode cX11_trades 84 = .ok (.getfield 278, 3) := by decide +kernel
theorem dX11_trades_87 : decode cX11_trades 87 = .ok (.iaload, 1) := by decide +kernel
theorem dX11_trades_88 : decode cX11_trades 88 = .ok (.if_icmp .ge 34, 3) := by decide +kernel
theorem dX11_trades_91 : decode cX11_trades 91 = .ok (.iload_n 3, 1) := by decide +kernel
theorem dX11_trades_92 : decode cX11_trades 92 = .ok (.ifCond .le 30, 3) := by decide +kernel
theorem dX11_trades_95 : decode cX11_trades 95 = .ok (.aload_n 0, 1) := by decide +kernel
theorem dX11_trades_96 : decode cX11_trades 96 = .ok (.dup, 1) := by decide +kernel
theorem dX11_trades_97 : decode cX11_trades 97 = .ok (.getfield 367, 3) := by decide +kernel
theorem dX11_trades_100 : decode cX11_trades 100 = .ok (.aload_n 0, 1) := by decide +kernel
theorem dX11_trades_101 : decode cX11_trades 101 = .ok (.aload_n 0, 1) := by decide +kernel
theorem dX11_trades_102 : decode cX11_trades 102 = .ok (.getfield 278, 3) := by decide +kernel
theorem dX11_trades_105 : decode cX11_trades 105 = .ok (.iload_n 3, 1) := by decide +kernel
theorem dX11_trades_106 : decode cX11_trades 106 = .ok (.invokevirtual 269, 3) := by decide +kernel
theorem dX11_trades_109 : decode cX11_trades 109 = .ok (.iadd, 1) := by decide +kernel
theorem dX11_trades_110 : decode cX11_trades 110 = .ok (.putfield 367, 3) := by decide +kernel
theorem dX11_trades_113 : decode cX11_trades 113 = .ok (.iinc 3 (-1), 3) := by decide +kernel
theorem dX11_trades_116 : decode cX11_trades 116 = .ok (.iinc 4 1, 3) := by decide +kernel
theorem dX11_trades_119 : decode cX11_trades 119 = .ok (.goto (-68), 3) := by decide +kernel
theorem dX11_trades_122 : decode cX11_trades 122 = .ok (.iload 5, 2) := by decide +kernel
theorem dX11_trades_124 : decode cX11_trades 124 = .ok (.ifCond .ne 56, 3) := by decide +kernel
theorem dX11_trades_127 : decode cX11_trades 127 = .ok (.aload_n 0, 1) := by decide +kernel
theorem dX11_trades_128 : decode cX11_trades 128 = .ok (.aload_n 0, 1) := by decide +kernel
theorem dX11_trades_129 : decode cX11_trades 129 = .ok (.getfield 278, 3) := by decide +kernel
theorem dX11_trades_132 : decode cX11_trades 132 = .ok (.iload_n 3, 1) := by decide +kernel
theorem dX11_trades_133 : decode cX11_trades 133 = .ok (.invokevirtual 269, 3) := by decide +kernel
theorem dX11_trades_136 : decode cX11_trades 136 = .ok (.aload_n 0, 1) := by decide +kernel
theorem dX11_trades_137 : decode cX11_trades 137 = .ok (.getfield 55, 3) := by decide +kernel
theorem dX11_trades_140 : decode cX11_trades 140 = .ok (.aload_n 0, 1) := by decide +kernel
theorem dX11_trades_141 : decode cX11_trades 141 = .ok (.getfield 278, 3) := by decide +kernel
theorem dX11_trades_144 : decode cX11_trades 144 = .ok (.iaload, 1) := by decide +kernel
theorem dX11_trades_145 : decode cX11_trades 145 = .ok (.if_icmp .le 35, 3) := by decide +kernel
theorem dX11_trades_148 : decode cX11_trades 148 = .ok (.iload 4, 2) := by decide +kernel
theorem dX11_trades_150 : decode cX11_trades 150 = .ok (.ifCond .le 30, 3) := by decide +kernel
theorem dX11_trades_153 : decode cX11_trades 153 = .ok (.aload_n 0, 1) := by decide +kernel
theorem dX11_trades_154 : decode cX11_trades 154 = .ok (.dup, 1) := by decide +kernel
theorem dX11_trades_155 : decode cX11_trades 155 = .ok (.getfield 367, 3) := by decide +kernel
theorem dX11_trades_158 : decode cX11_trades 158 = .ok (.aload_n 0, 1) := by decide +kernel
theorem dX11_trades_159 : decode cX11_trades 159 = .ok (.aload_n 0, 1) := by decide +kernel
theorem dX11_trades_160 : decode cX11_trades 160 = .ok (.getfield 278, 3) := by decide +kernel
theorem dX11_trades_163 : decode cX11_trades 163 = .ok (.iload_n 3, 1) := by decide +kernel
theorem dX11_trades_164 : decode cX11_trades 164 = .ok (.invokevirtual 269, 3) := by decide +kernel
theorem dX11_trades_167 : decode cX11_trades 167 = .ok (.isub, 1) := by decide +kernel
theorem dX11_trades_168 : decode cX11_trades 168 = .ok (.putfield 367, 3) := by decide +kernel
theorem dX11_trades_171 : decode cX11_trades 171 = .ok (.iinc 3 1, 3) := by decide +kernel
theorem dX11_trades_174 : decode cX11_trades 174 = .ok (.iinc 4 (-1), 3) := by decide +kernel
theorem dX11_trades_177 : decode cX11_trades 177 = .ok (.goto (-55), 3) := by decide +kernel
theorem dX11_trades_180 : decode cX11_trades 180 = .ok (.iload 4, 2) := by decide +kernel
theorem dX11_trades_182 : decode cX11_trades 182 = .ok (.ireturn, 1) := by decide +kernel
theorem dX11_run__0 : decode cX11_run_ 0 = .ok (.aload_n 0, 1) := by decide +kernel
theorem dX11_run__1 : decode cX11_run_ 1 = .ok (.iload_n 1, 1) := by decide +kernel
theorem dX11_run__2 : decode cX11_run_ 2 = .ok (.iload_n 2, 1) := by decide +kernel
theorem dX11_run__3 : decode cX11_run_ 3 = .ok (.iload_n 3, 1) := by decide +kernel
theorem dX11_run__4 : decode cX11_run_ 4 = .ok (.iload 4, 2) := by decide +kernel
theorem dX11_run__6 : decode cX11_run_ 6 = .ok (.invokevirtual 377, 3) := by decide +kernel
theorem dX11_run__9 : decode cX11_run_ 9 = .ok (.ifCond .ne 5, 3) := by decide +kernel
theorem dX11_run__12 : decode cX11_run_ 12 = .ok (.iconst (-1), 1) := by decide +kernel
theorem dX11_run__13 : decode cX11_run_ 13 = .ok (.ireturn, 1) := by decide +kernel
theorem dX11_run__14 : decode cX11_run_ 14 = .ok (.aload_n 0, 1) := by decide +kernel
theorem dX11_run__15 : decode cX11_run_ 15 = .ok (.iload_n 1, 1) := by decide +kernel
theorem dX11_run__16 : decode cX11_run_ 16 = .ok (.iload_n 2, 1) := by decide +kernel
theorem dX11_run__17 : decode cX11_run_ 17 = .ok (.iload_n 3, 1) := by decide +kernel
theorem dX11_run__18 : decode cX11_run_ 18 = .ok (.iload 4, 2) := by decide +kernel
theorem dX11_run__20 : decode cX11_run_ 20 = .ok (.invokevirtual 380, 3) := by decide +kernel
theorem dX11_run__23 : decode cX11_run_ 23 = .ok (.pop, 1) := by decide +kernel
theorem dX11_run__24 : decode cX11_run_ 24 = .ok (.aload_n 0, 1) := by decide +kernel
theorem dX11_run__25 : decode cX11_run_ 25 = .ok (.iconst 1, 1) := by decide +kernel
theorem dX11_run__26 : decode cX11_run_ 26 = .ok (.putfield 383, 3) := by decide +kernel
theorem dX11_run__29 : decode cX11_run_ 29 = .ok (.aload_n 0, 1) := by decide +kernel
theorem dX11_run__30 : decode cX11_run_ 30 = .ok (.aload_n 0, 1) := by decide +kernel
theorem dX11_run__31 : decode cX11_run_ 31 = .ok (.getfield 105, 3) := by decide +kernel
theorem dX11_run__34 : decode cX11_run_ 34 = .ok (.iconst 0, 1) := by decide +kernel
theorem dX11_run__35 : decode cX11_run_ 35 = .ok (.iaload, 1) := by decide +kernel
theorem dX11_run__36 : decode cX11_run_ 36 = .ok (.putfield 386, 3) := by decide +kernel
theorem dX11_run__39 : decode cX11_run_ 39 = .ok (.aload_n 0, 1) := by decide +kernel
theorem dX11_run__40 : decode cX11_run_ 40 = .ok (.aload_n 0, 1) := by decide +kernel
theorem dX11_run__41 : decode cX11_run_ 41 = .ok (.getfield 367, 3) := by decide +kernel
theorem dX11_run__44 : decode cX11_run_ 44 = .ok (.putfield 389, 3) := by decide +kernel
theorem dX11_run__47 : decode cX11_run_ 47 = .ok (.iconst 0, 1) := by decide +kernel
theorem dX11_run__48 : decode cX11_run_ 48 = .ok (.istore 5, 2) := by decide +kernel
theorem dX11_run__50 : decode cX11_run_ 50 = .ok (.iload 5, 2) := by decide +kernel
theorem dX11_run__52 : decode cX11_run_ 52 = .ok (.bipush 7, 2) := by decide +kernel
theorem dX11_run__54 : decode cX11_run_ 54 = .ok (.aload_n 0, 1) := by decide +kernel
theorem dX11_run__55 : decode cX11_run_ 55 = .ok (.getfield 386, 3) := by decide +kernel
theorem dX11_run__58 : decode cX11_run_ 58 = .ok (.imul, 1) := by decide +kernel
theorem dX11_run__59 : decode cX11_run_ 59 = .ok (.if_icmp .ge 23, 3) := by decide +kernel
theorem dX11_run__62 : decode cX11_run_ 62 = .ok (.aload_n 0, 1) := by decide +kernel
theorem dX11_run__63 : decode cX11_run_ 63 = .ok (.getfield 108, 3) := by decide +kernel
theorem dX11_run__66 : decode cX11_run_ 66 = .ok (.iload 5, 2) := by decide +kernel
theorem dX11_run__68 : decode cX11_run_ 68 = .ok (.aload_n 0, 1) := by decide +kernel
theorem dX11_run__69 : decode cX11_run_ 69 = .ok (.getfield 111, 3) := by decide +kernel
theorem dX11_run__72 : decode cX11_run_ 72 = .ok (.iload 5, 2) := by decide +kernel
theorem dX11_run__74 : decode cX11_run_ 74 = .ok (.iaload, 1) := by decide +kernel
theorem dX11_run__75 : decode cX11_run_ 75 = .ok (.iastore, 1) := by decide +kernel
theorem dX11_run__76 : decode cX11_run_ 76 = .ok (.iinc 5 1, 3) := by decide +kernel
theorem dX11_run__79 : decode cX11_run_ 79 = .ok (.goto (-29), 3) := by decide +kernel
theorem dX11_run__82 : decode cX11_run_ 82 = .ok (.aload_n 0, 1) := by decide +kernel
theorem dX11_run__83 : decode cX11_run_ 83 = .ok (.getfield 386, 3) := by decide +kernel
theorem dX11_run__86 : decode cX11_run_ 86 = .ok (.ireturn, 1) := by decide +kernel
theorem dX11_blame_0 : decode cX11_blame 0 = .ok (.aload_n 0, 1) := by decide +kernel
theorem dX11_blame_1 : decode cX11_blame 1 = .ok (.iload_n 1, 1) := by decide +kernel
theorem dX11_blame_2 : decode cX11_blame 2 = .ok (.iload_n 2, 1) := by decide +kernel
theorem dX11_blame_3 : decode cX11_blame 3 = .ok (.iload_n 3, 1) := by decide +kernel
theorem dX11_blame_4 : decode cX11_blame 4 = .ok (.iload 4, 2) := by decide +kernel
theorem dX11_blame_6 : decode cX11_blame 6 = .ok (.invokevirtual 377, 3) := by decide +kernel
theorem dX11_blame_9 : decode cX11_blame 9 = .ok (.ifCond .ne 7, 3) := by decide +kernel
theorem dX11_blame_12 : decode cX11_blame 12 = .ok (.ldc_w 392, 3) := by decide +kernel
theorem dX11_blame_15 : decode cX11_blame 15 = .ok (.ireturn, 1) := by decide +kernel
theorem dX11_blame_16 : decode cX11_blame 16 = .ok (.aload_n 0, 1) := by decide +kernel
theorem dX11_blame_17 : decode cX11_blame 17 = .ok (.iload_n 1, 1) := by decide +kernel
theorem dX11_blame_18 : decode cX11_blame 18 = .ok (.iload_n 2, 1) := by decide +kernel
theorem dX11_blame_19 : decode cX11_blame 19 = .ok (.iload_n 3, 1) := by decide +kernel
theorem dX11_blame_20 : decode cX11_blame 20 = .ok (.iload 4, 2) := by decide +kernel
theorem dX11_blame_22 : decode cX11_blame 22 = .ok (.invokevirtual 380, 3) := by decide +kernel
theorem dX11_blame_25 : decode cX11_blame 25 = .ok (.aload_n 0, 1) := by decide +kernel
theorem dX11_blame_26 : decode cX11_blame 26 = .ok (.iload_n 1, 1) := by decide +kernel
theorem dX11_blame_27 : decode cX11_blame 27 = .ok (.iconst 0, 1) := by decide +kernel
theorem dX11_blame_28 : decode cX11_blame 28 = .ok (.iload_n 3, 1) := by decide +kernel
theorem dX11_blame_29 : decode cX11_blame 29 = .ok (.iload 4, 2) := by decide +kernel
theorem dX11_blame_31 : decode cX11_blame 31 = .ok (.invokevirtual 380, 3) := by decide +kernel
theorem dX11_blame_34 : decode cX11_blame 34 = .ok (.isub, 1) := by decide +kernel
theorem dX11_blame_35 : decode cX11_blame 35 = .ok (.ireturn, 1) := by decide +kernel
theorem dX11_towns_0 : decode cX11_towns 0 = .ok (.aload_n 0, 1) := by decide +kernel
theorem dX11_towns_1 : decode cX11_towns 1 = .ok (.iload_n 1, 1) := by decide +kernel
theorem dX11_towns_2 : decode cX11_towns 2 = .ok (.iload_n 3, 1) := by decide +kernel
theorem dX11_towns_3 : decode cX11_towns 3 = .ok (.iload 4, 2) := by decide +kernel
theorem dX11_towns_5 : decode cX11_towns 5 = .ok (.iload 5, 2) := by decide +kernel
theorem dX11_towns_7 : decode cX11_towns 7 = .ok (.invokevirtual 377, 3) := by decide +kernel
theorem dX11_towns_10 : decode cX11_towns 10 = .ok (.ifCond .eq 52, 3) := by decide +kernel
theorem dX11_towns_13 : decode cX11_towns 13 = .ok (.aload_n 0, 1) := by decide +kernel
theorem dX11_towns_14 : decode cX11_towns 14 = .ok (.iload_n 2, 1) := by decide +kernel
theorem dX11_towns_15 : decode cX11_towns 15 = .ok (.iload_n 3, 1) := by decide +kernel
theorem dX11_towns_16 : decode cX11_towns 16 = .ok (.iload 4, 2) := by decide +kernel
theorem dX11_towns_18 : decode cX11_towns 18 = .ok (.iload 6, 2) := by decide +kernel
theorem dX11_towns_20 : decode cX11_towns 20 = .ok (.invokevirtual 377, 3) := by decide +kernel
theorem dX11_towns_23 : decode cX11_towns 23 = .ok (.ifCond .eq 39, 3) := by decide +kernel
theorem dX11_towns_26 : decode cX11_towns 26 = .ok (.iload_n 1, 1) := by decide +kernel
theorem dX11_towns_27 : decode cX11_towns 27 = .ok (.iload_n 2, 1) := by decide +kernel
theorem dX11_towns_28 : decode cX11_towns 28 = .ok (.if_icmp .eq 34, 3) := by decide +kernel
theorem dX11_towns_31 : decode cX11_towns 31 = .ok (.aload_n 0, 1) := by decide +kernel
theorem dX11_towns_32 : decode cX11_towns 32 = .ok (.getfield 13, 3) := by decide +kernel
theorem dX11_towns_35 : decode cX11_towns 35 = .ok (.iload_n 1, 1) := by decide +kernel
theorem dX11_towns_36 : decode cX11_towns 36 = .ok (.iaload, 1) := by decide +kernel
theorem dX11_towns_37 : decode cX11_towns 37 = .ok (.aload_n 0, 1) := by decide +kernel
theorem dX11_towns_38 : decode cX11_towns 38 = .ok (.getfield 13, 3) := by decide +kernel
theorem dX11_towns_41 : decode cX11_towns 41 = .ok (.iload_n 2, 1) := by decide +kernel
theorem dX11_towns_42 : decode cX11_towns 42 = .ok (.iaload, 1) := by decide +kernel
theorem dX11_towns_43 : decode cX11_towns 43 = .ok (.if_icmp .ne 19, 3) := by decide +kernel
theorem dX11_towns_46 : decode cX11_towns 46 = .ok (.iload_n 3, 1) := by decide +kernel
theorem dX11_towns_47 : decode cX11_towns 47 = .ok (.iconst 3, 1) := by decide +kernel
theorem dX11_towns_48 : decode cX11_towns 48 = .ok (.if_icmp .eq 14, 3) := by decide +kernel
theorem dX11_towns_51 : decode cX11_towns 51 = .ok (.iload 7, 2) := by decide +kernel
theorem dX11_towns_53 : decode cX11_towns 53 = .ok (.iconst 0, 1) := by decide +kernel
theorem dX11_towns_54 : decode cX11_towns 54 = .ok (.bipush 99, 2) := by decide +kernel
theorem dX11_towns_56 : decode cX11_towns 56 = .ok (.invokestatic 145, 3) := by decide +kernel
theorem dX11_towns_59 : decode cX11_towns 59 = .ok (.ifCond .ne 5, 3) := by decide +kernel
theorem dX11_towns_62 : decode cX11_towns 62 = .ok (.iconst (-1), 1) := by decide +kernel
theorem dX11_towns_63 : decode cX11_towns 63 = .ok (.ireturn, 1) := by decide +kernel
theorem dX11_towns_64 : decode cX11_towns 64 = .ok (.aload_n 0, 1) := by decide +kernel
theorem dX11_towns_65 : decode cX11_towns 65 = .ok (.iconst 2, 1) := by decide +kernel
theorem dX11_towns_66 : decode cX11_towns 66 = .ok (.putfield 383, 3) := by decide +kernel
theorem dX11_towns_69 : decode cX11_towns 69 = .ok (.aload_n 0, 1) := by decide +kernel
theorem dX11_towns_70 : decode cX11_towns 70 = .ok (.aload_n 0, 1) := by decide +kernel
theorem dX11_towns_71 : decode cX11_towns 71 = .ok (.getfield 105, 3) := by decide +kernel
theorem dX11_towns_74 : decode cX11_towns 74 = .ok (.iconst 0, 1) := by decide +kernel
theorem dX11_towns_75 : decode cX11_towns 75 = .ok (.iaload, 1) := by decide +kernel
theorem dX11_towns_76 : decode cX11_towns 76 = .ok (.aload_n 0, 1) := by decide +kernel
theorem dX11_towns_77 : decode cX11_towns 77 = .ok (.getfield 105, 3) := by decide +kernel
theorem dX11_towns_80 : decode cX11_towns 80 = .ok (.iconst 1, 1) := by decide +kernel
theorem dX11_towns_81 : decode cX11_towns 81 = .ok (.iaload, 1) := by decide +kernel
theorem dX11_towns_82 : decode cX11_towns 82 = .ok (.invokestatic 169, 3) := by decide +kernel
theorem dX11_towns_85 : decode cX11_towns 85 = .ok (.putfield 386, 3) := by decide +kernel
theorem dX11_towns_88 : decode cX11_towns 88 = .ok (.aload_n 0, 1) := by decide +kernel
theorem dX11_towns_89 : decode cX11_towns 89 = .ok (.iconst 0, 1) := by decide +kernel
theorem dX11_towns_90 : decode cX11_towns 90 = .ok (.putfield 389, 3) := by decide +kernel
theorem dX11_towns_93 : decode cX11_towns 93 = .ok (.iconst 0, 1) := by decide +kernel
theorem dX11_towns_94 : decode cX11_towns 94 = .ok (.istore 8, 2) := by decide +kernel
theorem dX11_towns_96 : decode cX11_towns 96 = .ok (.iload 8, 2) := by decide +kernel
theorem dX11_towns_98 : decode cX11_towns 98 = .ok (.iconst 2, 1) := by decide +kernel
theorem dX11_towns_99 : decode cX11_towns 99 = .ok (.if_icmp .ge 139, 3) := by decide +kernel
theorem dX11_towns_102 : decode cX11_towns 102 = .ok (.aload_n 0, 1) := by decide +kernel
theorem dX11_towns_103 : decode cX11_towns 103 = .ok (.iload 8, 2) := by decide +kernel
theorem dX11_towns_105 : decode cX11_towns 105 = .ok (.ifCond .ne 7, 3) := by decide +kernel
theorem dX11_towns_108 : decode cX11_towns 108 = .ok (.iload_n 1, 1) := by decide +kernel
theorem dX11_towns_109 : decode cX11_towns 109 = .ok (.goto 4, 3) := by decide +kernel
theorem dX11_towns_112 : decode cX11_towns 112 = .ok (.iload_n 2, 1) := by decide +kernel
theorem dX11_towns_113 : decode cX11_towns 113 = .ok (.invokevirtual 348, 3) := by decide +kernel
theorem dX11_towns_116 : decode cX11_towns 116 = .ok (.iload 8, 2) := by decide +kernel
theorem dX11_towns_118 : decode cX11_towns 118 = .ok (.ifCond .ne 8, 3) := by decide +kernel
theorem dX11_towns_121 : decode cX11_towns 121 = .ok (.iload 5, 2) := by decide +kernel
theorem dX11_towns_123 : decode cX11_towns 123 = .ok (.goto 5, 3) := by decide +kernel
theorem dX11_towns_126 : decode cX11_towns 126 = .ok (.iload 6, 2) := by decide +kernel
theorem dX11_towns_128 : decode cX11_towns 128 = .ok (.istore 9, 2) := by decide +kernel
theorem dX11_towns_130 : decode cX11_towns 130 = .ok (.iconst 0, 1) := by decide +kernel
theorem dX11_towns_131 : decode cX11_towns 131 = .ok (.istore 10, 2) := by decide +kernel
theorem dX11_towns_133 : decode cX11_towns 133 = .ok (.iload 10, 2) := by decide +kernel
theorem dX11_towns_135 : decode cX11_towns 135 = .ok (.aload_n 0, 1) := by decide +kernel
theorem dX11_towns_136 : decode cX11_towns 136 = .ok (.getfield 386, 3) := by decide +kernel
theorem dX11_towns_139 : decode cX11_towns 139 = .ok (.if_icmp .ge 93, 3) := by decide +kernel
theorem dX11_towns_142 : decode cX11_towns 142 = .ok (.iload 9, 2) := by decide +kernel
theorem dX11_towns_144 : decode cX11_towns 144 = .ok (.aload_n 0, 1) := by decide +kernel
theorem dX11_towns_145 : decode cX11_towns 145 = .ok (.getfield 102, 3) := by decide +kernel
theorem dX11_towns_148 : decode cX11_towns 148 = .ok (.bipush 40, 2) := by decide +kernel
theorem dX11_towns_150 : decode cX11_towns 150 = .ok (.iload 8, 2) := by decide +kernel
theorem dX11_towns_152 : decode cX11_towns 152 = .ok (.imul, 1) := by decide +kernel
theorem dX11_towns_153 : decode cX11_towns 153 = .ok (.iload 10, 2) := by decide +kernel
theorem dX11_towns_155 : decode cX11_towns 155 = .ok (.iadd, 1) := by decide +kernel
theorem dX11_towns_156 : decode cX11_towns 156 = .ok (.iaload, 1) := by decide +kernel
theorem dX11_towns_157 : decode cX11_towns 157 = .ok (.iadd, 1) := by decide +kernel
theorem dX11_towns_158 : decode cX11_towns 158 = .ok (.istore 11, 2) := by decide +kernel
theorem dX11_towns_160 : decode cX11_towns 160 = .ok (.aload_n 0, 1) := by decide +kernel
theorem dX11_towns_161 : decode cX11_towns 161 = .ok (.iload_n 3, 1) := by decide +kernel
theorem dX11_towns_162 : decode cX11_towns 162 = .ok (.iload 4, 2) := by decide +kernel
theorem dX11_towns_164 : decode cX11_towns 164 = .ok (.iload 10, 2) := by decide +kernel
theorem dX11_towns_166 : decode cX11_towns 166 = .ok (.aload_n 0, 1) := by decide +kernel
theorem dX11_towns_167 : decode cX11_towns 167 = .ok (.getfield 13, 3) := by decide +kernel
theorem dX11_towns_170 : decode cX11_towns 170 = .ok (.aload_n 0, 1) := by decide +kernel
theorem dX11_towns_171 : decode cX11_towns 171 = .ok (.getfield 278, 3) := by decide +kernel
theorem dX11_towns_174 : decode cX11_towns 174 = .ok (.iaload, 1) := by decide +kernel
theorem dX11_towns_175 : decode cX11_towns 175 = .ok (.irem, 1) := by decide +kernel
theorem dX11_towns_176 : decode cX11_towns 176 = .ok (.iload 11, 2) := by decide +kernel
theorem dX11_towns_178 : decode cX11_towns 178 = .ok (.invokevirtual 319, 3) := by decide +kernel
theorem dX11_towns_181 : decode cX11_towns 181 = .ok (.istore 12, 2) := by decide +kernel
theorem dX11_towns_183 : decode cX11_towns 183 = .ok (.aload_n 0, 1) := by decide +kernel
theorem dX11_towns_184 : decode cX11_towns 184 = .ok (.aload_n 0, 1) := by decide +kernel
theorem dX11_towns_185 : decode cX11_towns 185 = .ok (.getfield 108, 3) := by decide +kernel
theorem dX11_towns_188 : decode cX11_towns 188 = .ok (.bipush 7, 2) := by decide +kernel
theorem dX11_towns_190 : decode cX11_towns 190 = .ok (.bipush 40, 2) := by decide +kernel
theorem dX11_towns_192 : decode cX11_towns 192 = .ok (.iload 8, 2) := by decide +kernel
theorem dX11_towns_194 : decode cX11_towns 194 = .ok (.imul, 1) := by decide +kernel
theorem dX11_towns_195 : decode cX11_towns 195 = .ok (.iload 10, 2) := by decide +kernel
theorem dX11_towns_197 : decode cX11_towns 197 = .ok (.iadd, 1) := by decide +kernel
theorem dX11_towns_198 : decode cX11_towns 198 = .ok (.imul, 1) := by decide +kernel
theorem dX11_towns_199 : decode cX11_towns 199 = .ok (.iload 11, 2) := by decide +kernel
theorem dX11_towns_201 : decode cX11_towns 201 = .ok (.iload 12, 2) := by decide +kernel
theorem dX11_towns_203 : decode cX11_towns 203 = .ok (.iload 11, 2) := by decide +kernel
theorem dX11_towns_205 : decode cX11_towns 205 = .ok (.iload 12, 2) := by decide +kernel
theorem dX11_towns_207 : decode cX11_towns 207 = .ok (.isub, 1) := by decide +kernel
theorem dX11_towns_208 : decode cX11_towns 208 = .ok (.iconst 0, 1) := by decide +kernel
theorem dX11_towns_209 : decode cX11_towns 209 = .ok (.iconst 0, 1) := by decide +kernel
theorem dX11_towns_210 : decode cX11_towns 210 = .ok (.iconst 0, 1) := by decide +kernel
theorem dX11_towns_211 : decode cX11_towns 211 = .ok (.invokevirtual 373, 3) := by decide +kernel
theorem dX11_towns_214 : decode cX11_towns 214 = .ok (.aload_n 0, 1) := by decide +kernel
theorem dX11_towns_215 : decode cX11_towns 215 = .ok (.aload_n 0, 1) := by decide +kernel
theorem dX11_towns_216 : decode cX11_towns 216 = .ok (.getfield 278, 3) := by decide +kernel
theorem dX11_towns_219 : decode cX11_towns 219 = .ok (.iload 12, 2) := by decide +kernel
theorem dX11_towns_221 : decode cX11_towns 221 = .ok (.invokevirtual 275, 3) := by decide +kernel
theorem dX11_towns_224 : decode cX11_towns 224 = .ok (.istore 9, 2) := by decide +kernel
theorem dX11_towns_226 : decode cX11_towns 226 = .ok (.iinc 10 1, 3) := by decide +kernel
theorem dX11_towns_229 : decode cX11_towns 229 = .ok (.goto (-96), 3) := by decide +kernel
theorem dX11_towns_232 : decode cX11_towns 232 = .ok (.iinc 8 1, 3) := by decide +kernel
theorem dX11_towns_235 : decode cX11_towns 235 = .ok (.goto (-139), 3) := by decide +kernel
theorem dX11_towns_238 : decode cX11_towns 238 = .ok (.iconst 0, 1) := by decide +kernel
theorem dX11_towns_239 : decode cX11_towns 239 = .ok (.istore 8, 2) := by decide +kernel
theorem dX11_towns_241 : decode cX11_towns 241 = .ok (.iload 8, 2) := by decide +kernel
theorem dX11_towns_243 : decode cX11_towns 243 = .ok (.aload_n 0, 1) := by decide +kernel
theorem dX11_towns_244 : decode cX11_towns 244 = .ok (.getfield 386, 3) := by decide +kernel
theorem dX11_towns_247 : decode cX11_towns 247 = .ok (.if_icmp .ge 30, 3) := by decide +kernel
theorem dX11_towns_250 : decode cX11_towns 250 = .ok (.aload_n 0, 1) := by decide +kernel
theorem dX11_towns_251 : decode cX11_towns 251 = .ok (.iload_n 1, 1) := by decide +kernel
theorem dX11_towns_252 : decode cX11_towns 252 = .ok (.iload_n 2, 1) := by decide +kernel
theorem dX11_towns_253 : decode cX11_towns 253 = .ok (.bipush 7, 2) := by decide +kernel
theorem dX11_towns_255 : decode cX11_towns 255 = .ok (.iload 8, 2) := by decide +kernel
theorem dX11_towns_257 : decode cX11_towns 257 = .ok (.imul, 1) := by decide +kernel
theorem dX11_towns_258 : decode cX11_towns 258 = .ok (.bipush 7, 2) := by decide +kernel
theorem dX11_towns_260 : decode cX11_towns 260 = .ok (.bipush 40, 2) := by decide +kernel
theorem dX11_towns_262 : decode cX11_towns 262 = .ok (.iload 8, 2) := by decide +kernel
theorem dX11_towns_264 : decode cX11_towns 264 = .ok (.iadd, 1) := by decide +kernel
theorem dX11_towns_265 : decode cX11_towns 265 = .ok (.imul, 1) := by decide +kernel
theorem dX11_towns_266 : decode cX11_towns 266 = .ok (.iload 7, 2) := by decide +kernel
theorem dX11_towns_268 : decode cX11_towns 268 = .ok (.invokevirtual 393, 3) := by decide +kernel
theorem dX11_towns_271 : decode cX11_towns 271 = .ok (.iinc 8 1, 3) := by decide +kernel
theorem dX11_towns_274 : decode cX11_towns 274 = .ok (.goto (-33), 3) := by decide +kernel
theorem dX11_towns_277 : decode cX11_towns 277 = .ok (.aload_n 0, 1) := by decide +kernel
theorem dX11_towns_278 : decode cX11_towns 278 = .ok (.getfield 386, 3) := by decide +kernel
theorem dX11_towns_281 : decode cX11_towns 281 = .ok (.ireturn, 1) := by decide +kernel
theorem dX11_carry_0 : decode cX11_carry 0 = .ok (.aload_n 0, 1) := by decide +kernel
theorem dX11_carry_1 : decode cX11_carry 1 = .ok (.getfield 108, 3) := by decide +kernel
theorem dX11_carry_4 : decode cX11_carry 4 = .ok (.iload_n 3, 1) := by decide +kernel
theorem dX11_carry_5 : decode cX11_carry 5 = .ok (.iaload, 1) := by decide +kernel
theorem dX11_carry_6 : decode cX11_carry 6 = .ok (.aload_n 0, 1) := by decide +kernel
theorem dX11_carry_7 : decode cX11_carry 7 = .ok (.getfield 108, 3) := by decide +kernel
theorem dX11_carry_10 : decode cX11_carry 10 = .ok (.iload_n 3, 1) := by decide +kernel
theorem dX11_carry_11 : decode cX11_carry 11 = .ok (.iconst 1, 1) := by decide +kernel
theorem dX11_carry_12 : decode cX11_carry 12 = .ok (.iadd, 1) := by decide +kernel
theorem dX11_carry_13 : decode cX11_carry 13 = .ok (.iaload, 1) := by decide +kernel
theorem dX11_carry_14 : decode cX11_carry 14 = .ok (.isub, 1) := by decide +kernel
theorem dX11_carry_15 : decode cX11_carry 15 = .ok (.istore 6, 2) := by decide +kernel
theorem dX11_carry_17 : decode cX11_carry 17 = .ok (.aload_n 0, 1) := by decide +kernel
theorem dX11_carry_18 : decode cX11_carry 18 = .ok (.getfield 108, 3) := by decide +kernel
theorem dX11_carry_21 : decode cX11_carry 21 = .ok (.iload 4, 2) := by decide +kernel
theorem dX11_carry_23 : decode cX11_carry 23 = .ok (.iaload, 1) := by decide +kernel
theorem dX11_carry_24 : decode cX11_carry 24 = .ok (.aload_n 0, 1) := by decide +kernel
theorem dX11_carry_25 : decode cX11_carry 25 = .ok (.getfield 108, 3) := by decide +kernel
theorem dX11_carry_28 : decode cX11_carry 28 = .ok (.iload 4, 2) := by decide +kernel
theorem dX11_carry_30 : decode cX11_carry 30 = .ok (.iconst 1, 1) := by decide +kernel
theorem dX11_carry_31 : decode cX11_carry 31 = .ok (.iadd, 1) := by decide +kernel
theorem dX11_carry_32 : decode cX11_carry 32 = .ok (.iaload, 1) := by decide +kernel
theorem dX11_carry_33 : decode cX11_carry 33 = .ok (.isub, 1) := by decide +kernel
theorem dX11_carry_34 : decode cX11_carry 34 = .ok (.istore 7, 2) := by decide +kernel
theorem dX11_carry_36 : decode cX11_carry 36 = .ok (.aload_n 0, 1) := by decide +kernel
theorem dX11_carry_37 : decode cX11_carry 37 = .ok (.iload_n 1, 1) := by decide +kernel
theorem dX11_carry_38 : decode cX11_carry 38 = .ok (.iload_n 2, 1) := by decide +kernel
theorem dX11_carry_39 : decode cX11_carry 39 = .ok (.iload 6, 2) := by decide +kernel
theorem dX11_carry_41 : decode cX11_carry 41 = .ok (.iload 7, 2) := by decide +kernel
theorem dX11_carry_43 : decode cX11_carry 43 = .ok (.iload 5, 2) := by decide +kernel
theorem dX11_carry_45 : decode cX11_carry 45 = .ok (.invokevirtual 397, 3) := by decide +kernel
theorem dX11_carry_48 : decode cX11_carry 48 = .ok (.istore 8, 2) := by decide +kernel
theorem dX11_carry_50 : decode cX11_carry 50 = .ok (.iload 8, 2) := by decide +kernel
theorem dX11_carry_52 : decode cX11_carry 52 = .ok (.ifCond .eq 63, 3) := by decide +kernel
theorem dX11_carry_55 : decode cX11_carry 55 = .ok (.iload 6, 2) := by decide +kernel
theorem dX11_carry_57 : decode cX11_carry 57 = .ok (.iload 8, 2) := by decide +kernel
theorem dX11_carry_59 : decode cX11_carry 59 = .ok (.iadd, 1) := by decide +kernel
theorem dX11_carry_60 : decode cX11_carry 60 = .ok (.istore 6, 2) := by decide +kernel
theorem dX11_carry_62 : decode cX11_carry 62 = .ok (.iload 7, 2) := by decide +kernel
theorem dX11_carry_64 : decode cX11_carry 64 = .ok (.iload 8, 2) := by decide +kernel
theorem dX11_carry_66 : decode cX11_carry 66 = .ok (.isub, 1) := by decide +kernel
theorem dX11_carry_67 : decode cX11_carry 67 = .ok (.istore 7, 2) := by decide +kernel
theorem dX11_carry_69 : decode cX11_carry 69 = .ok (.aload_n 0, 1) := by decide +kernel
theorem dX11_carry_70 : decode cX11_carry 70 = .ok (.getfield 108, 3) := by decide +kernel
theorem dX11_carry_73 : decode cX11_carry 73 = .ok (.iload_n 3, 1) := by decide +kernel
theorem dX11_carry_74 : decode cX11_carry 74 = .ok (.bipush 6, 2) := by decide +kernel
theorem dX11_carry_76 : decode cX11_carry 76 = .ok (.iadd, 1) := by decide +kernel
theorem dX11_carry_77 : decode cX11_carry 77 = .ok (.dup2, 1) := by decide +kernel
theorem dX11_carry_78 : decode cX11_carry 78 = .ok (.iaload, 1) := by decide +kernel
theorem dX11_carry_79 : decode cX11_carry 79 = .ok (.iload 8, 2) := by decide +kernel
theorem dX11_carry_81 : decode cX11_carry 81 = .ok (.isub, 1) := by decide +kernel
theorem dX11_carry_82 : decode cX11_carry 82 = .ok (.iastore, 1) := by decide +kernel
theorem dX11_carry_83 : decode cX11_carry 83 = .ok (.aload_n 0, 1) := by decide +kernel
theorem dX11_carry_84 : decode cX11_carry 84 = .ok (.getfield 108, 3) := by decide +kernel
theorem dX11_carry_87 : decode cX11_carry 87 = .ok (.iload 4, 2) := by decide +kernel
theorem dX11_carry_89 : decode cX11_carry 89 = .ok (.bipush 6, 2) := by decide +kernel
theorem dX11_carry_91 : decode cX11_carry 91 = .ok (.iadd, 1) := by decide +kernel
theorem dX11_carry_92 : decode cX11_carry 92 = .ok (.dup2, 1) := by decide +kernel
theorem dX11_carry_93 : decode cX11_carry 93 = .ok (.iaload, 1) := by decide +kernel
theorem dX11_carry_94 : decode cX11_carry 94 = .ok (.iload 8, 2) := by decide +kernel
theorem dX11_carry_96 : decode cX11_carry 96 = .ok (.iadd, 1) := by decide +kernel
theorem dX11_carry_97 : decode cX11_carry 97 = .ok (.iastore, 1) := by decide +kernel
theorem dX11_carry_98 : decode cX11_carry 98 = .ok (.aload_n 0, 1) := by decide +kernel
theorem dX11_carry_99 : decode cX11_carry 99 = .ok (.iload_n 1, 1) := by decide +kernel
theorem dX11_carry_100 : decode cX11_carry 100 = .ok (.iload_n 2, 1) := by decide +kernel
theorem dX11_carry_101 : decode cX11_carry 101 = .ok (.iload 6, 2) := by decide +kernel
theorem dX11_carry_103 : decode cX11_carry 103 = .ok (.iload 7, 2) := by decide +kernel
theorem dX11_carry_105 : decode cX11_carry 105 = .ok (.iload 5, 2) := by decide +kernel
theorem dX11_carry_107 : decode cX11_carry 107 = .ok (.invokevirtual 397, 3) := by decide +kernel
theorem dX11_carry_110 : decode cX11_carry 110 = .ok (.istore 8, 2) := by decide +kernel
theorem dX11_carry_112 : decode cX11_carry 112 = .ok (.goto (-62), 3) := by decide +kernel
theorem dX11_carry_115 : decode cX11_carry 115 = .ok (.aload_n 0, 1) := by decide +kernel
theorem dX11_carry_116 : decode cX11_carry 116 = .ok (.iload_n 1, 1) := by decide +kernel
theorem dX11_carry_117 : decode cX11_carry 117 = .ok (.iload_n 3, 1) := by decide +kernel
theorem dX11_carry_118 : decode cX11_carry 118 = .ok (.iload 6, 2) := by decide +kernel
theorem dX11_carry_120 : decode cX11_carry 120 = .ok (.invokevirtual 400, 3) := by decide +kernel
theorem dX11_carry_123 : decode cX11_carry 123 = .ok (.aload_n 0, 1) := by decide +kernel
theorem dX11_carry_124 : decode cX11_carry 124 = .ok (.iload_n 2, 1) := by decide +kernel
theorem dX11_carry_125 : decode cX11_carry 125 = .ok (.iload 4, 2) := by decide +kernel
theorem dX11_carry_127 : decode cX11_carry 127 = .ok (.iload 7, 2) := by decide +kernel
theorem dX11_carry_129 : decode cX11_carry 129 = .ok (.invokevirtual 400, 3) := by decide +kernel
theorem dX11_carry_132 : decode cX11_carry 132 = .ok (.return_, 1) := by decide +kernel
theorem dX11_wayOf_0 : decode cX11_wayOf 0 = .ok (.iload 4, 2) := by decide +kernel
theorem dX11_wayOf_2 : decode cX11_wayOf 2 = .ok (.ifCond .le 26, 3) := by decide +kernel
theorem dX11_wayOf_5 : decode cX11_wayOf 5 = .ok (.aload_n 0, 1) := by decide +kernel
theorem dX11_wayOf_6 : decode cX11_wayOf 6 = .ok (.iload_n 1, 1) := by decide +kernel
theorem dX11_wayOf_7 : decode cX11_wayOf 7 = .ok (.iload_n 3, 1) := by decide +kernel
theorem dX11_wayOf_8 : decode cX11_wayOf 8 = .ok (.invokevirtual 269, 3) := by decide +kernel
theorem dX11_wayOf_11 : decode cX11_wayOf 11 = .ok (.aload_n 0, 1) := by decide +kernel
theorem dX11_wayOf_12 : decode cX11_wayOf 12 = .ok (.iload_n 2, 1) := by decide +kernel
theorem dX11_wayOf_13 : decode cX11_wayOf 13 = .ok (.iload 4, 2) := by decide +kernel
theorem dX11_wayOf_15 : decode cX11_wayOf 15 = .ok (.iconst 1, 1) := by decide +kernel
theorem dX11_wayOf_16 : decode cX11_wayOf 16 = .ok (.isub, 1) := by decide +kernel
theorem dX11_wayOf_17 : decode cX11_wayOf 17 = .ok (.invokevirtual 269, 3) := by decide +kernel
theorem dX11_wayOf_20 : decode cX11_wayOf 20 = .ok (.iload 5, 2) := by decide +kernel
theorem dX11_wayOf_22 : decode cX11_wayOf 22 = .ok (.iadd, 1) := by decide +kernel
theorem dX11_wayOf_23 : decode cX11_wayOf 23 = .ok (.if_icmp .le 5, 3) := by decide +kernel
theorem dX11_wayOf_26 : decode cX11_wayOf 26 = .ok (.iconst 1, 1) := by decide +kernel
theorem dX11_wayOf_27 : decode cX11_wayOf 27 = .ok (.ireturn, 1) := by decide +kernel
theorem dX11_wayOf_28 : decode cX11_wayOf 28 = .ok (.iload_n 3, 1) := by decide +kernel
theorem dX11_wayOf_29 : decode cX11_wayOf 29 = .ok (.ifCond .le 28, 3) := by decide +kernel
theorem dX11_wayOf_32 : decode cX11_wayOf 32 = .ok (.aload_n 0, 1) := by decide +kernel
theorem dX11_wayOf_33 : decode cX11_wayOf 33 = .ok (.iload_n 2, 1) := by decide +kernel
theorem dX11_wayOf_34 : decode cX11_wayOf 34 = .ok (.iload 4, 2) := by decide +kernel
theorem dX11_wayOf_36 : decode cX11_wayOf 36 = .ok (.invokevirtual 269, 3) := by decide +kernel
theorem dX11_wayOf_39 : decode cX11_wayOf 39 = .ok (.aload_n 0, 1) := by decide +kernel
theorem dX11_wayOf_40 : decode cX11_wayOf 40 = .ok (.iload_n 1, 1) := by decide +kernel
theorem dX11_wayOf_41 : decode cX11_wayOf 41 = .ok (.iload_n 3, 1) := by decide +kernel
theorem dX11_wayOf_42 : decode cX11_wayOf 42 = .ok (.iconst 1, 1) := by decide +kernel
theorem dX11_wayOf_43 : decode cX11_wayOf 43 = .ok (.isub, 1) := by decide +kernel
theorem dX11_wayOf_44 : decode cX11_wayOf 44 = .ok (.invokevirtual 269, 3) := by decide +kernel
theorem dX11_wayOf_47 : decode cX11_wayOf 47 = .ok (.iload 5, 2) := by decide +kernel
theorem dX11_wayOf_49 : decode cX11_wayOf 49 = .ok (.iadd, 1) := by decide +kernel
theorem dX11_wayOf_50 : decode cX11_wayOf 50 = .ok (.if_icmp .le 7, 3) := by decide +kernel
theorem dX11_wayOf_53 : decode cX11_wayOf 53 = .ok (.iconst (-1), 1) := by decide +kernel
theorem dX11_wayOf_54 : decode cX11_wayOf 54 = .ok (.goto 4, 3) := by decide +kernel
theorem dX11_wayOf_57 : decode cX11_wayOf 57 = .ok (.iconst 0, 1) := by decide +kernel
theorem dX11_wayOf_58 : decode cX11_wayOf 58 = .ok (.ireturn, 1) := by decide +kernel
theorem dX11_tellTown_0 : decode cX11_tellTown 0 = .ok (.aload_n 0, 1) := by decide +kernel
theorem dX11_tellTown_1 : decode cX11_tellTown 1 = .ok (.getfield 108, 3) := by decide +kernel
theorem dX11_tellTown_4 : decode cX11_tellTown 4 = .ok (.iload_n 2, 1) := by decide +kernel
theorem dX11_tellTown_5 : decode cX11_tellTown 5 = .ok (.iconst 2, 1) := by decide +kernel
theorem dX11_tellTown_6 : decode cX11_tellTown 6 = .ok (.iadd, 1) := by decide +kernel
theorem dX11_tellTown_7 : decode cX11_tellTown 7 = .ok (.aload_n 0, 1) := by decide +kernel
theorem dX11_tellTown_8 : decode cX11_tellTown 8 = .ok (.getfield 19, 3) := by decide +kernel
theorem dX11_tellTown_11 : decode cX11_tellTown 11 = .ok (.iload_n 1, 1) := by decide +kernel
theorem dX11_tellTown_12 : decode cX11_tellTown 12 = .ok (.iaload, 1) := by decide +kernel
theorem dX11_tellTown_13 : decode cX11_tellTown 13 = .ok (.iload_n 3, 1) := by decide +kernel
theorem dX11_tellTown_14 : decode cX11_tellTown 14 = .ok (.invokestatic 169, 3) := by decide +kernel
theorem dX11_tellTown_17 : decode cX11_tellTown 17 = .ok (.iastore, 1) := by decide +kernel
theorem dX11_tellTown_18 : decode cX11_tellTown 18 = .ok (.aload_n 0, 1) := by decide +kernel
theorem dX11_tellTown_19 : decode cX11_tellTown 19 = .ok (.getfield 108, 3) := by decide +kernel
theorem dX11_tellTown_22 : decode cX11_tellTown 22 = .ok (.iload_n 2, 1) := by decide +kernel
theorem dX11_tellTown_23 : decode cX11_tellTown 23 = .ok (.iconst 3, 1) := by decide +kernel
theorem dX11_tellTown_24 : decode cX11_tellTown 24 = .ok (.iadd, 1) := by decide +kernel
theorem dX11_tellTown_25 : decode cX11_tellTown 25 = .ok (.aload_n 0, 1) := by decide +kernel
theorem dX11_tellTown_26 : decode cX11_tellTown 26 = .ok (.iload_n 1, 1) := by decide +kernel
theorem dX11_tellTown_27 : decode cX11_tellTown 27 = .ok (.iload_n 3, 1) := by decide +kernel
theorem dX11_tellTown_28 : decode cX11_tellTown 28 = .ok (.invokevirtual 269, 3) := by decide +kernel
theorem dX11_tellTown_31 : decode cX11_tellTown 31 = .ok (.iastore, 1) := by decide +kernel
theorem dX11_tellTown_32 : decode cX11_tellTown 32 = .ok (.aload_n 0, 1) := by decide +kernel
theorem dX11_tellTown_33 : decode cX11_tellTown 33 = .ok (.getfield 108, 3) := by decide +kernel
theorem dX11_tellTown_36 : decode cX11_tellTown 36 = .ok (.iload_n 2, 1) := by decide +kernel
theorem dX11_tellTown_37 : decode cX11_tellTown 37 = .ok (.iconst 4, 1) := by decide +kernel
theorem dX11_tellTown_38 : decode cX11_tellTown 38 = .ok (.iadd, 1) := by decide +kernel
theorem dX11_tellTown_39 : decode cX11_tellTown 39 = .ok (.aload_n 0, 1) := by decide +kernel
theorem dX11_tellTown_40 : decode cX11_tellTown 40 = .ok (.iload_n 1, 1) := by decide +kernel
theorem dX11_tellTown_41 : decode cX11_tellTown 41 = .ok (.iload_n 3, 1) := by decide +kernel
theorem dX11_tellTown_42 : decode cX11_tellTown 42 = .ok (.invokevirtual 272, 3) := by decide +kernel
theorem dX11_tellTown_45 : decode cX11_tellTown 45 = .ok (.iastore, 1) := by decide +kernel
theorem dX11_tellTown_46 : decode cX11_tellTown 46 = .ok (.return_, 1) := by decide +kernel
theorem dX11_ran_0 : decode cX11_ran 0 = .ok (.aload_n 0, 1) := by decide +kernel
theorem dX11_ran_1 : decode cX11_ran 1 = .ok (.iload_n 1, 1) := by decide +kernel
theorem dX11_ran_2 : decode cX11_ran 2 = .ok (.iconst 0, 1) := by decide +kernel
theorem dX11_ran_3 : decode cX11_ran 3 = .ok (.aload_n 0, 1) := by decide +kernel
theorem dX11_ran_4 : decode cX11_ran 4 = .ok (.getfield 383, 3) := by decide +kernel
theorem dX11_ran_7 : decode cX11_ran 7 = .ok (.iconst 1, 1) := by decide +kernel
theorem dX11_ran_8 : decode cX11_ran 8 = .ok (.isub, 1) := by decide +kernel
theorem dX11_ran_9 : decode cX11_ran 9 = .ok (.invokestatic 145, 3) := by decide +kernel
theorem dX11_ran_12 : decode cX11_ran 12 = .ok (.ifCond .eq 31, 3) := by decide +kernel
theorem dX11_ran_15 : decode cX11_ran 15 = .ok (.iload_n 2, 1) := by decide +kernel
theorem dX11_ran_16 : decode cX11_ran 16 = .ok (.iconst 0, 1) := by decide +kernel
theorem dX11_ran_17 : decode cX11_ran 17 = .ok (.aload_n 0, 1) := by decide +kernel
theorem dX11_ran_18 : decode cX11_ran 18 = .ok (.getfield 386, 3) := by decide +kernel
theorem dX11_ran_21 : decode cX11_ran 21 = .ok (.iconst 1, 1) := by decide +kernel
theorem dX11_ran_22 : decode cX11_ran 22 = .ok (.isub, 1) := by decide +kernel
theorem dX11_ran_23 : decode cX11_ran 23 = .ok (.invokestatic 145, 3) := by decide +kernel
theorem dX11_ran_26 : decode cX11_ran 26 = .ok (.ifCond .eq 17, 3) := by decide +kernel
theorem dX11_ran_29 : decode cX11_ran 29 = .ok (.iload_n 3, 1) := by decide +kernel
theorem dX11_ran_30 : decode cX11_ran 30 = .ok (.iconst 0, 1) := by decide +kernel
theorem dX11_ran_31 : decode cX11_ran 31 = .ok (.bipush 6, 2) := by decide +kernel
theorem dX11_ran_33 : decode cX11_ran 33 = .ok (.invokestatic 145, 3) := by decide +kernel
theorem dX11_ran_36 : decode cX11_ran 36 = .ok (.ifCond .eq 7, 3) := by decide +kernel
theorem dX11_ran_39 : decode cX11_ran 39 = .ok (.iconst 0, 1) := by decide +kernel
theorem dX11_ran_40 : decode cX11_ran 40 = .ok (.goto 4, 3) := by decide +kernel
theorem dX11_ran_43 : decode cX11_ran 43 = .ok (.iconst 1, 1) := by decide +kernel
theorem dX11_ran_44 : decode cX11_ran 44 = .ok (.putfield 114, 3) := by decide +kernel
theorem dX11_ran_47 : decode cX11_ran 47 = .ok (.aload_n 0, 1) := by decide +kernel
theorem dX11_ran_48 : decode cX11_ran 48 = .ok (.getfield 114, 3) := by decide +kernel
theorem dX11_ran_51 : decode cX11_ran 51 = .ok (.iconst 1, 1) := by decide +kernel
theorem dX11_ran_52 : decode cX11_ran 52 = .ok (.if_icmp .ne 7, 3) := by decide +kernel
theorem dX11_ran_55 : decode cX11_ran 55 = .ok (.iconst 0, 1) := by decide +kernel
theorem dX11_ran_56 : decode cX11_ran 56 = .ok (.goto 19, 3) := by decide +kernel
theorem dX11_ran_59 : decode cX11_ran 59 = .ok (.aload_n 0, 1) := by decide +kernel
theorem dX11_ran_60 : decode cX11_ran 60 = .ok (.getfield 108, 3) := by decide +kernel
theorem dX11_ran_63 : decode cX11_ran 63 = .ok (.bipush 7, 2) := by decide +kernel
theorem dX11_ran_65 : decode cX11_ran 65 = .ok (.bipush 40, 2) := by decide +kernel
theorem dX11_ran_67 : decode cX11_ran 67 = .ok (.iload_n 1, 1) := by decide +kernel
theorem dX11_ran_68 : decode cX11_ran 68 = .ok (.imul, 1) := by decide +kernel
theorem dX11_ran_69 : decode cX11_ran 69 = .ok (.iload_n 2, 1) := by decide +kernel
theorem dX11_ran_70 : decode cX11_ran 70 = .ok (.iadd, 1) := by decide +kernel
theorem dX11_ran_71 : decode cX11_ran 71 = .ok (.imul, 1) := by decide +kernel
theorem dX11_ran_72 : decode cX11_ran 72 = .ok (.iload_n 3, 1) := by decide +kernel
theorem dX11_ran_73 : decode cX11_ran 73 = .ok (.iadd, 1) := by decide +kernel
theorem dX11_ran_74 : decode cX11_ran 74 = .ok (.iaload, 1) := by decide +kernel
theorem dX11_ran_75 : decode cX11_ran 75 = .ok (.ireturn, 1) := by decide +kernel
theorem dX11_spent_0 : decode cX11_spent 0 = .ok (.aload_n 0, 1) := by decide +kernel
theorem dX11_spent_1 : decode cX11_spent 1 = .ok (.getfield 389, 3) := by decide +kernel
theorem dX11_spent_4 : decode cX11_spent 4 = .ok (.ireturn, 1) := by decide +kernel
theorem dX11_count_0 : decode cX11_count 0 = .ok (.iload_n 1, 1) := by decide +kernel
theorem dX11_count_1 : decode cX11_count 1 = .ok (.tableswitch 64 0 4 #[35, 40, 45, 52, 59], 35) := by decide +kernel
theorem dX11_count_36 : decode cX11_count 36 = .ok (.aload_n 0, 1) := by decide +kernel
theorem dX11_count_37 : decode cX11_count 37 = .ok (.getfield 224, 3) := by decide +kernel
theorem dX11_count_40 : decode cX11_count 40 = .ok (.ireturn, 1) := by decide +kernel
theorem dX11_count_41 : decode cX11_count 41 = .ok (.aload_n 0, 1) := by decide +kernel
theorem dX11_count_42 : decode cX11_count 42 = .ok (.getfield 227, 3) := by decide +kernel
theorem dX11_count_45 : decode cX11_count 45 = .ok (.ireturn, 1) := by decide +kernel
theorem dX11_count_46 : decode cX11_count 46 = .ok (.aload_n 0, 1) := by decide +kernel
theorem dX11_count_47 : decode cX11_count 47 = .ok (.getfield 105, 3) := by decide +kernel
theorem dX11_count_50 : decode cX11_count 50 = .ok (.iconst 0, 1) := by decide +kernel
theorem dX11_count_51 : decode cX11_count 51 = .ok (.iaload, 1) := by decide +kernel
theorem dX11_count_52 : decode cX11_count 52 = .ok (.ireturn, 1) := by decide +kernel
theorem dX11_count_53 : decode cX11_count 53 = .ok (.aload_n 0, 1) := by decide +kernel
theorem dX11_count_54 : decode cX11_count 54 = .ok (.getfield 105, 3) := by decide +kernel
theorem dX11_count_57 : decode cX11_count 57 = .ok (.iconst 1, 1) := by decide +kernel
theorem dX11_count_58 : decode cX11_count 58 = .ok (.iaload, 1) := by decide +kernel
theorem dX11_count_59 : decode cX11_count 59 = .ok (.ireturn, 1) := by decide +kernel
theorem dX11_count_60 : decode cX11_count 60 = .ok (.aload_n 0, 1) := by decide +kernel
theorem dX11_count_61 : decode cX11_count 61 = .ok (.getfield 122, 3) := by decide +kernel
theorem dX11_count_64 : decode cX11_count 64 = .ok (.ireturn, 1) := by decide +kernel
theorem dX11_count_65 : decode cX11_count 65 = .ok (.iconst (-1), 1) := by decide +kernel
theorem dX11_count_66 : decode cX11_count 66 = .ok (.ireturn, 1) := by decide +kernel
