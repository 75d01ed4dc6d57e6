/-! decode -/
theorem dX10_init_0 : decode cX10_init 0 = .ok (.aload_n 0, 1) := by decide +kernel
theorem dX10_init_1 : decode cX10_init 1 = .ok (.invokespecial 3, 3) := by decide +kernel
theorem dX10_init_4 : decode cX10_init 4 = .ok (.aload_n 0, 1) := by decide +kernel
theorem dX10_init_5 : decode cX10_init 5 = .ok (.new 9, 3) := by decide +kernel
theorem dX10_init_8 : decode cX10_init 8 = .ok (.dup, 1) := by decide +kernel
theorem dX10_init_9 : decode cX10_init 9 = .ok (.invokespecial 11, 3) := by decide +kernel
theorem dX10_init_12 : decode cX10_init 12 = .ok (.putfield 12, 3) := by decide +kernel
theorem dX10_init_15 : decode cX10_init 15 = .ok (.aload_n 0, 1) := by decide +kernel
theorem dX10_init_16 : decode cX10_init 16 = .ok (.new 16, 3) := by decide +kernel
theorem dX10_init_19 : decode cX10_init 19 = .ok (.dup, 1) := by decide +kernel
theorem dX10_init_20 : decode cX10_init 20 = .ok (.aload_n 0, 1) := by decide +kernel
theorem dX10_init_21 : decode cX10_init 21 = .ok (.getfield 12, 3) := by decide +kernel
theorem dX10_init_24 : decode cX10_init 24 = .ok (.invokespecial 18, 3) := by decide +kernel
theorem dX10_init_27 : decode cX10_init 27 = .ok (.putfield 21, 3) := by decide +kernel
theorem dX10_init_30 : decode cX10_init 30 = .ok (.aload_n 0, 1) := by decide +kernel
theorem dX10_init_31 : decode cX10_init 31 = .ok (.new 25, 3) := by decide +kernel
theorem dX10_init_34 : decode cX10_init 34 = .ok (.dup, 1) := by decide +kernel
theorem dX10_init_35 : decode cX10_init 35 = .ok (.aload_n 0, 1) := by decide +kernel
theorem dX10_init_36 : decode cX10_init 36 = .ok (.getfield 12, 3) := by decide +kernel
theorem dX10_init_39 : decode cX10_init 39 = .ok (.invokespecial 27, 3) := by decide +kernel
theorem dX10_init_42 : decode cX10_init 42 = .ok (.putfield 28, 3) := by decide +kernel
theorem dX10_init_45 : decode cX10_init 45 = .ok (.aload_n 0, 1) := by decide +kernel
theorem dX10_init_46 : decode cX10_init 46 = .ok (.bipush 6, 2) := by decide +kernel
theorem dX10_init_48 : decode cX10_init 48 = .ok (.anewarray 32, 3) := by decide +kernel
theorem dX10_init_51 : decode cX10_init 51 = .ok (.putfield 34, 3) := by decide +kernel
theorem dX10_init_54 : decode cX10_init 54 = .ok (.aload_n 0, 1) := by decide +kernel
theorem dX10_init_55 : decode cX10_init 55 = .ok (.bipush 6, 2) := by decide +kernel
theorem dX10_init_57 : decode cX10_init 57 = .ok (.anewarray 38, 3) := by decide +kernel
theorem dX10_init_60 : decode cX10_init 60 = .ok (.putfield 40, 3) := by decide +kernel
theorem dX10_init_63 : decode cX10_init 63 = .ok (.aload_n 0, 1) := by decide +kernel
theorem dX10_init_64 : decode cX10_init 64 = .ok (.iconst 2, 1) := by decide +kernel
theorem dX10_init_65 : decode cX10_init 65 = .ok (.bipush 40, 2) := by decide +kernel
theorem dX10_init_67 : decode cX10_init 67 = .ok (.multianewarray 44 2, 4) := by decide +kernel
theorem dX10_init_71 : decode cX10_init 71 = .ok (.putfield 46, 3) := by decide +kernel
theorem dX10_init_74 : decode cX10_init 74 = .ok (.aload_n 0, 1) := by decide +kernel
theorem dX10_init_75 : decode cX10_init 75 = .ok (.iconst 2, 1) := by decide +kernel
theorem dX10_init_76 : decode cX10_init 76 = .ok (.newarray .int, 2) := by decide +kernel
theorem dX10_init_78 : decode cX10_init 78 = .ok (.putfield 49, 3) := by decide +kernel
theorem dX10_init_81 : decode cX10_init 81 = .ok (.aload_n 0, 1) := by decide +kernel
theorem dX10_init_82 : decode cX10_init 82 = .ok (.new 53, 3) := by decide +kernel
theorem dX10_init_85 : decode cX10_init 85 = .ok (.dup, 1) := by decide +kernel
theorem dX10_init_86 : decode cX10_init 86 = .ok (.invokespecial 55, 3) := by decide +kernel
theorem dX10_init_89 : decode cX10_init 89 = .ok (.putfield 56, 3) := by decide +kernel
theorem dX10_init_92 : decode cX10_init 92 = .ok (.aload_n 0, 1) := by decide +kernel
theorem dX10_init_93 : decode cX10_init 93 = .ok (.iconst 2, 1) := by decide +kernel
theorem dX10_init_94 : decode cX10_init 94 = .ok (.anewarray 60, 3) := by decide +kernel
theorem dX10_init_97 : decode cX10_init 97 = .ok (.putfield 62, 3) := by decide +kernel
theorem dX10_init_100 : decode cX10_init 100 = .ok (.aload_n 0, 1) := by decide +kernel
theorem dX10_init_101 : decode cX10_init 101 = .ok (.getfield 62, 3) := by decide +kernel
theorem dX10_init_104 : decode cX10_init 104 = .ok (.iconst 0, 1) := by decide +kernel
theorem dX10_init_105 : decode cX10_init 105 = .ok (.new 60, 3) := by decide +kernel
theorem dX10_init_108 : decode cX10_init 108 = .ok (.dup, 1) := by decide +kernel
theorem dX10_init_109 : decode cX10_init 109 = .ok (.invokespecial 66, 3) := by decide +kernel
theorem dX10_init_112 : decode cX10_init 112 = .ok (.aastore, 1) := by decide +kernel
theorem dX10_init_113 : decode cX10_init 113 = .ok (.aload_n 0, 1) := by decide +kernel
theorem dX10_init_114 : decode cX10_init 114 = .ok (.getfield 62, 3) := by decide +kernel
theorem dX10_init_117 : decode cX10_init 117 = .ok (.iconst 1, 1) := by decide +kernel
theorem dX10_init_118 : decode cX10_init 118 = .ok (.new 60, 3) := by decide +kernel
theorem dX10_init_121 : decode cX10_init 121 = .ok (.dup, 1) := by decide +kernel
theorem dX10_init_122 : decode cX10_init 122 = .ok (.invokespecial 66, 3) := by decide +kernel
theorem dX10_init_125 : decode cX10_init 125 = .ok (.aastore, 1) := by decide +kernel
theorem dX10_init_126 : decode cX10_init 126 = .ok (.aload_n 0, 1) := by decide +kernel
theorem dX10_init_127 : decode cX10_init 127 = .ok (.new 67, 3) := by decide +kernel
theorem dX10_init_130 : decode cX10_init 130 = .ok (.dup, 1) := by decide +kernel
theorem dX10_init_131 : decode cX10_init 131 = .ok (.iconst 2, 1) := by decide +kernel
theorem dX10_init_132 : decode cX10_init 132 = .ok (.invokespecial 69, 3) := by decide +kernel
theorem dX10_init_135 : decode cX10_init 135 = .ok (.putfield 72, 3) := by decide +kernel
theorem dX10_init_138 : decode cX10_init 138 = .ok (.aload_n 0, 1) := by decide +kernel
theorem dX10_init_139 : decode cX10_init 139 = .ok (.new 67, 3) := by decide +kernel
theorem dX10_init_142 : decode cX10_init 142 = .ok (.dup, 1) := by decide +kernel
theorem dX10_init_143 : decode cX10_init 143 = .ok (.iconst 1, 1) := by decide +kernel
theorem dX10_init_144 : decode cX10_init 144 = .ok (.invokespecial 69, 3) := by decide +kernel
theorem dX10_init_147 : decode cX10_init 147 = .ok (.putfield 76, 3) := by decide +kernel
theorem dX10_init_150 : decode cX10_init 150 = .ok (.return_, 1) := by decide +kernel
theorem dX10_feed_0 : decode cX10_feed 0 = .ok (.iload_n 1, 1) := by decide +kernel
theorem dX10_feed_1 : decode cX10_feed 1 = .ok (.invokestatic 79, 3) := by decide +kernel
theorem dX10_feed_4 : decode cX10_feed 4 = .ok (.iload_n 2, 1) := by decide +kernel
theorem dX10_feed_5 : decode cX10_feed 5 = .ok (.invokestatic 79, 3) := by decide +kernel
theorem dX10_feed_8 : decode cX10_feed 8 = .ok (.iadd, 1) := by decide +kernel
theorem dX10_feed_9 : decode cX10_feed 9 = .ok (.iload_n 3, 1) := by decide +kernel
theorem dX10_feed_10 : decode cX10_feed 10 = .ok (.invokestatic 79, 3) := by decide +kernel
theorem dX10_feed_13 : decode cX10_feed 13 = .ok (.iadd, 1) := by decide +kernel
theorem dX10_feed_14 : decode cX10_feed 14 = .ok (.iload 4, 2) := by decide +kernel
theorem dX10_feed_16 : decode cX10_feed 16 = .ok (.invokestatic 79, 3) := by decide +kernel
theorem dX10_feed_19 : decode cX10_feed 19 = .ok (.iadd, 1) := by decide +kernel
theorem dX10_feed_20 : decode cX10_feed 20 = .ok (.iload 5, 2) := by decide +kernel
theorem dX10_feed_22 : decode cX10_feed 22 = .ok (.invokestatic 79, 3) := by decide +kernel
theorem dX10_feed_25 : decode cX10_feed 25 = .ok (.iadd, 1) := by decide +kernel
theorem dX10_feed_26 : decode cX10_feed 26 = .ok (.istore 6, 2) := by decide +kernel
theorem dX10_feed_28 : decode cX10_feed 28 = .ok (.aload_n 0, 1) := by decide +kernel
theorem dX10_feed_29 : decode cX10_feed 29 = .ok (.getfield 12, 3) := by decide +kernel
theorem dX10_feed_32 : decode cX10_feed 32 = .ok (.getfield 83, 3) := by decide +kernel
theorem dX10_feed_35 : decode cX10_feed 35 = .ok (.iload 6, 2) := by decide +kernel
theorem dX10_feed_37 : decode cX10_feed 37 = .ok (.iadd, 1) := by decide +kernel
theorem dX10_feed_38 : decode cX10_feed 38 = .ok (.sipush 240, 3) := by decide +kernel
theorem dX10_feed_41 : decode cX10_feed 41 = .ok (.if_icmp .le 5, 3) := by decide +kernel
theorem dX10_feed_44 : decode cX10_feed 44 = .ok (.iconst (-1), 1) := by decide +kernel
theorem dX10_feed_45 : decode cX10_feed 45 = .ok (.ireturn, 1) := by decide +kernel
theorem dX10_feed_46 : decode cX10_feed 46 = .ok (.aload_n 0, 1) := by decide +kernel
theorem dX10_feed_47 : decode cX10_feed 47 = .ok (.getfield 12, 3) := by decide +kernel
theorem dX10_feed_50 : decode cX10_feed 50 = .ok (.iload_n 1, 1) := by decide +kernel
theorem dX10_feed_51 : decode cX10_feed 51 = .ok (.invokevirtual 87, 3) := by decide +kernel
theorem dX10_feed_54 : decode cX10_feed 54 = .ok (.aload_n 0, 1) := by decide +kernel
theorem dX10_feed_55 : decode cX10_feed 55 = .ok (.getfield 12, 3) := by decide +kernel
theorem dX10_feed_58 : decode cX10_feed 58 = .ok (.iload_n 2, 1) := by decide +kernel
theorem dX10_feed_59 : decode cX10_feed 59 = .ok (.invokevirtual 87, 3) := by decide +kernel
theorem dX10_feed_62 : decode cX10_feed 62 = .ok (.aload_n 0, 1) := by decide +kernel
theorem dX10_feed_63 : decode cX10_feed 63 = .ok (.getfield 12, 3) := by decide +kernel
theorem dX10_feed_66 : decode cX10_feed 66 = .ok (.iload_n 3, 1) := by decide +kernel
theorem dX10_feed_67 : decode cX10_feed 67 = .ok (.invokevirtual 87, 3) := by decide +kernel
theorem dX10_feed_70 : decode cX10_feed 70 = .ok (.aload_n 0, 1) := by decide +kernel
theorem dX10_feed_71 : decode cX10_feed 71 = .ok (.getfield 12, 3) := by decide +kernel
theorem dX10_feed_74 : decode cX10_feed 74 = .ok (.iload 4, 2) := by decide +kernel
theorem dX10_feed_76 : decode cX10_feed 76 = .ok (.invokevirtual 87, 3) := by decide +kernel
theorem dX10_feed_79 : decode cX10_feed 79 = .ok (.aload_n 0, 1) := by decide +kernel
theorem dX10_feed_80 : decode cX10_feed 80 = .ok (.getfield 12, 3) := by decide +kernel
theorem dX10_feed_83 : decode cX10_feed 83 = .ok (.iload 5, 2) := by decide +kernel
theorem dX10_feed_85 : decode cX10_feed 85 = .ok (.invokevirtual 87, 3) := by decide +kernel
theorem dX10_feed_88 : decode cX10_feed 88 = .ok (.aload_n 0, 1) := by decide +kernel
theorem dX10_feed_89 : decode cX10_feed 89 = .ok (.getfield 12, 3) := by decide +kernel
theorem dX10_feed_92 : decode cX10_feed 92 = .ok (.getfield 83, 3) := by decide +kernel
theorem dX10_feed_95 : decode cX10_feed 95 = .ok (.ireturn, 1) := by decide +kernel
theorem dX10_end_0 : decode cX10_end 0 = .ok (.iload_n 1, 1) := by decide +kernel
theorem dX10_end_1 : decode cX10_end 1 = .ok (.iconst 0, 1) := by decide +kernel
theorem dX10_end_2 : decode cX10_end 2 = .ok (.aload_n 0, 1) := by decide +kernel
theorem dX10_end_3 : decode cX10_end 3 = .ok (.getfield 12, 3) := by decide +kernel
theorem dX10_end_6 : decode cX10_end 6 = .ok (.getfield 83, 3) := by decide +kernel
theorem dX10_end_9 : decode cX10_end 9 = .ok (.invokestatic 90, 3) := by decide +kernel
theorem dX10_end_12 : decode cX10_end 12 = .ok (.ifCond .ne 5, 3) := by decide +kernel
theorem dX10_end_15 : decode cX10_end 15 = .ok (.iconst 0, 1) := by decide +kernel
theorem dX10_end_16 : decode cX10_end 16 = .ok (.ireturn, 1) := by decide +kernel
theorem dX10_end_17 : decode cX10_end 17 = .ok (.aload_n 0, 1) := by decide +kernel
theorem dX10_end_18 : decode cX10_end 18 = .ok (.getfield 12, 3) := by decide +kernel
theorem dX10_end_21 : decode cX10_end 21 = .ok (.iload_n 1, 1) := by decide +kernel
theorem dX10_end_22 : decode cX10_end 22 = .ok (.putfield 83, 3) := by decide +kernel
theorem dX10_end_25 : decode cX10_end 25 = .ok (.iconst 1, 1) := by decide +kernel
theorem dX10_end_26 : decode cX10_end 26 = .ok (.ireturn, 1) := by decide +kernel
theorem dX10_fault_0 : decode cX10_fault 0 = .ok (.iload_n 1, 1) := by decide +kernel
theorem dX10_fault_1 : decode cX10_fault 1 = .ok (.ifCond .ne 11, 3) := by decide +kernel
theorem dX10_fault_4 : decode cX10_fault 4 = .ok (.aload_n 0, 1) := by decide +kernel
theorem dX10_fault_5 : decode cX10_fault 5 = .ok (.getfield 21, 3) := by decide +kernel
theorem dX10_fault_8 : decode cX10_fault 8 = .ok (.invokevirtual 94, 3) := by decide +kernel
theorem dX10_fault_11 : decode cX10_fault 11 = .ok (.ireturn, 1) := by decide +kernel
theorem dX10_fault_12 : decode cX10_fault 12 = .ok (.iload_n 1, 1) := by decide +kernel
theorem dX10_fault_13 : decode cX10_fault 13 = .ok (.iconst 1, 1) := by decide +kernel
theorem dX10_fault_14 : decode cX10_fault 14 = .ok (.if_icmp .ne 13, 3) := by decide +kernel
theorem dX10_fault_17 : decode cX10_fault 17 = .ok (.aload_n 0, 1) := by decide +kernel
theorem dX10_fault_18 : decode cX10_fault 18 = .ok (.getfield 28, 3) := by decide +kernel
theorem dX10_fault_21 : decode cX10_fault 21 = .ok (.invokevirtual 98, 3) := by decide +kernel
theorem dX10_fault_24 : decode cX10_fault 24 = .ok (.goto 5, 3) := by decide +kernel
theorem dX10_fault_27 : decode cX10_fault 27 = .ok (.bipush (-2), 2) := by decide +kernel
theorem dX10_fault_29 : decode cX10_fault 29 = .ok (.ireturn, 1) := by decide +kernel
theorem dX10_land_0 : decode cX10_land 0 = .ok (.aload_n 0, 1) := by decide +kernel
theorem dX10_land_1 : decode cX10_land 1 = .ok (.getfield 99, 3) := by decide +kernel
theorem dX10_land_4 : decode cX10_land 4 = .ok (.bipush 6, 2) := by decide +kernel
theorem dX10_land_6 : decode cX10_land 6 = .ok (.if_icmp .ge 14, 3) := by decide +kernel
theorem dX10_land_9 : decode cX10_land 9 = .ok (.aload_n 0, 1) := by decide +kernel
theorem dX10_land_10 : decode cX10_land 10 = .ok (.getfield 21, 3) := by decide +kernel
theorem dX10_land_13 : decode cX10_land 13 = .ok (.invokevirtual 94, 3) := by decide +kernel
theorem dX10_land_16 : decode cX10_land 16 = .ok (.iconst (-1), 1) := by decide +kernel
theorem dX10_land_17 : decode cX10_land 17 = .ok (.if_icmp .eq 5, 3) := by decide +kernel
theorem dX10_land_20 : decode cX10_land 20 = .ok (.iconst (-1), 1) := by decide +kernel
theorem dX10_land_21 : decode cX10_land 21 = .ok (.ireturn, 1) := by decide +kernel
theorem dX10_land_22 : decode cX10_land 22 = .ok (.aload_n 0, 1) := by decide +kernel
theorem dX10_land_23 : decode cX10_land 23 = .ok (.getfield 34, 3) := by decide +kernel
theorem dX10_land_26 : decode cX10_land 26 = .ok (.aload_n 0, 1) := by decide +kernel
theorem dX10_land_27 : decode cX10_land 27 = .ok (.getfield 99, 3) := by decide +kernel
theorem dX10_land_30 : decode cX10_land 30 = .ok (.new 32, 3) := by decide +kernel
theorem dX10_land_33 : decode cX10_land 33 = .ok (.dup, 1) := by decide +kernel
theorem dX10_land_34 : decode cX10_land 34 = .ok (.aload_n 0, 1) := by decide +kernel
theorem dX10_land_35 : decode cX10_land 35 = .ok (.getfield 21, 3) := by decide +kernel
theorem dX10_land_38 : decode cX10_land 38 = .ok (.invokespecial 102, 3) := by decide +kernel
theorem dX10_land_41 : decode cX10_land 41 = .ok (.aastore, 1) := by decide +kernel
theorem dX10_land_42 : decode cX10_land 42 = .ok (.aload_n 0, 1) := by decide +kernel
theorem dX10_land_43 : decode cX10_land 43 = .ok (.getfield 12, 3) := by decide +kernel
theorem dX10_land_46 : decode cX10_land 46 = .ok (.iconst 0, 1) := by decide +kernel
theorem dX10_land_47 : decode cX10_land 47 = .ok (.putfield 83, 3) := by decide +kernel
theorem dX10_land_50 : decode cX10_land 50 = .ok (.aload_n 0, 1) := by decide +kernel
theorem dX10_land_51 : decode cX10_land 51 = .ok (.dup, 1) := by decide +kernel
theorem dX10_land_52 : decode cX10_land 52 = .ok (.getfield 99, 3) := by decide +kernel
theorem dX10_land_55 : decode cX10_land 55 = .ok (.iconst 1, 1) := by decide +kernel
theorem dX10_land_56 : decode cX10_land 56 = .ok (.iadd, 1) := by decide +kernel
theorem dX10_land_57 : decode cX10_land 57 = .ok (.putfield 99, 3) := by decide +kernel
theorem dX10_land_60 : decode cX10_land 60 = .ok (.aload_n 0, 1) := by decide +kernel
theorem dX10_land_61 : decode cX10_land 61 = .ok (.getfield 99, 3) := by decide +kernel
theorem dX10_land_64 : decode cX10_land 64 = .ok (.iconst 1, 1) := by decide +kernel
theorem dX10_land_65 : decode cX10_land 65 = .ok (.isub, 1) := by decide +kernel
theorem dX10_land_66 : decode cX10_land 66 = .ok (.ireturn, 1) := by decide +kernel
theorem dX10_rule_0 : decode cX10_rule 0 = .ok (.aload_n 0, 1) := by decide +kernel
theorem dX10_rule_1 : decode cX10_rule 1 = .ok (.getfield 105, 3) := by decide +kernel
theorem dX10_rule_4 : decode cX10_rule 4 = .ok (.bipush 6, 2) := by decide +kernel
theorem dX10_rule_6 : decode cX10_rule 6 = .ok (.if_icmp .ge 14, 3) := by decide +kernel
theorem dX10_rule_9 : decode cX10_rule 9 = .ok (.aload_n 0, 1) := by decide +kernel
theorem dX10_rule_10 : decode cX10_rule 10 = .ok (.getfield 28, 3) := by decide +kernel
theorem dX10_rule_13 : decode cX10_rule 13 = .ok (.invokevirtual 98, 3) := by decide +kernel
theorem dX10_rule_16 : decode cX10_rule 16 = .ok (.iconst (-1), 1) := by decide +kernel
theorem dX10_rule_17 : decode cX10_rule 17 = .ok (.if_icmp .eq 5, 3) := by decide +kernel
theorem dX10_rule_20 : decode cX10_rule 20 = .ok (.iconst (-1), 1) := by decide +kernel
theorem dX10_rule_21 : decode cX10_rule 21 = .ok (.ireturn, 1) := by decide +kernel
theorem dX10_rule_22 : decode cX10_rule 22 = .ok (.aload_n 0, 1) := by decide +kernel
theorem dX10_rule_23 : decode cX10_rule 23 = .ok (.getfield 40, 3) := by decide +kernel
theorem dX10_rule_26 : decode cX10_rule 26 = .ok (.aload_n 0, 1) := by decide +kernel
theorem dX10_rule_27 : decode cX10_rule 27 = .ok (.getfield 105, 3) := by decide +kernel
theorem dX10_rule_30 : decode cX10_rule 30 = .ok (.new 38, 3) := by decide +kernel
theorem dX10_rule_33 : decode cX10_rule 33 = .ok (.dup, 1) := by decide +kernel
theorem dX10_rule_34 : decode cX10_rule 34 = .ok (.aload_n 0, 1) := by decide +kernel
theorem dX10_rule_35 : decode cX10_rule 35 = .ok (.getfield 28, 3) := by decide +kernel
theorem dX10_rule_38 : decode cX10_rule 38 = .ok (.invokevirtual 108, 3) := by decide +kernel
theorem dX10_rule_41 : decode cX10_rule 41 = .ok (.invokespecial 112, 3) := by decide +kernel
theorem dX10_rule_44 : decode cX10_rule 44 = .ok (.aastore, 1) := by decide +kernel
theorem dX10_rule_45 : decode cX10_rule 45 = .ok (.aload_n 0, 1) := by decide +kernel
theorem dX10_rule_46 : decode cX10_rule 46 = .ok (.getfield 12, 3) := by decide +kernel
theorem dX10_rule_49 : decode cX10_rule 49 = .ok (.iconst 0, 1) := by decide +kernel
theorem dX10_rule_50 : decode cX10_rule 50 = .ok (.putfield 83, 3) := by decide +kernel
theorem dX10_rule_53 : decode cX10_rule 53 = .ok (.aload_n 0, 1) := by decide +kernel
theorem dX10_rule_54 : decode cX10_rule 54 = .ok (.dup, 1) := by decide +kernel
theorem dX10_rule_55 : decode cX10_rule 55 = .ok (.getfield 105, 3) := by decide +kernel
theorem dX10_rule_58 : decode cX10_rule 58 = .ok (.iconst 1, 1) := by decide +kernel
theorem dX10_rule_59 : decode cX10_rule 59 = .ok (.iadd, 1) := by decide +kernel
theorem dX10_rule_60 : decode cX10_rule 60 = .ok (.putfield 105, 3) := by decide +kernel
theorem dX10_rule_63 : decode cX10_rule 63 = .ok (.aload_n 0, 1) := by decide +kernel
theorem dX10_rule_64 : decode cX10_rule 64 = .ok (.getfield 105, 3) := by decide +kernel
theorem dX10_rule_67 : decode cX10_rule 67 = .ok (.iconst 1, 1) := by decide +kernel
theorem dX10_rule_68 : decode cX10_rule 68 = .ok (.isub, 1) := by decide +kernel
theorem dX10_rule_69 : decode cX10_rule 69 = .ok (.ireturn, 1) := by decide +kernel
theorem dX10_told_0 : decode cX10_told 0 = .ok (.aload_n 0, 1) := by decide +kernel
theorem dX10_told_1 : decode cX10_told 1 = .ok (.iload_n 1, 1) := by decide +kernel
theorem dX10_told_2 : decode cX10_told 2 = .ok (.invokevirtual 115, 3) := by decide +kernel
theorem dX10_told_5 : decode cX10_told 5 = .ok (.astore_n 3, 1) := by decide +kernel
theorem dX10_told_6 : decode cX10_told 6 = .ok (.aload_n 3, 1) := by decide +kernel
theorem dX10_told_7 : decode cX10_told 7 = .ok (.ifnonnull 5, 3) := by decide +kernel
theorem dX10_told_10 : decode cX10_told 10 = .ok (.iconst (-1), 1) := by decide +kernel
theorem dX10_told_11 : decode cX10_told 11 = .ok (.ireturn, 1) := by decide +kernel
theorem dX10_told_12 : decode cX10_told 12 = .ok (.iload_n 2, 1) := by decide +kernel
theorem dX10_told_13 : decode cX10_told 13 = .ok (.tableswitch 93 0 7 #[47, 52, 58, 63, 68, 73, 78, 83], 47) := by decide +kernel
theorem dX10_told_60 : decode cX10_told 60 = .ok (.aload_n 3, 1) := by decide +kernel
theorem dX10_told_61 : decode cX10_told 61 = .ok (.getfield 119, 3) := by decide +kernel
theorem dX10_told_64 : decode cX10_told 64 = .ok (.ireturn, 1) := by decide +kernel
theorem dX10_told_65 : decode cX10_told 65 = .ok (.aload_n 3, 1) := by decide +kernel
theorem dX10_told_66 : decode cX10_told 66 = .ok (.getfield 122, 3) := by decide +kernel
theorem dX10_told_69 : decode cX10_told 69 = .ok (.arraylength, 1) := by decide +kernel
theorem dX10_told_70 : decode cX10_told 70 = .ok (.ireturn, 1) := by decide +kernel
theorem dX10_told_71 : decode cX10_told 71 = .ok (.aload_n 3, 1) := by decide +kernel
theorem dX10_told_72 : decode cX10_told 72 = .ok (.getfield 125, 3) := by decide +kernel
theorem dX10_told_75 : decode cX10_told 75 = .ok (.ireturn, 1) := by decide +kernel
theorem dX10_told_76 : decode cX10_told 76 = .ok (.aload_n 3, 1) := by decide +kernel
theorem dX10_told_77 : decode cX10_told 77 = .ok (.getfield 128, 3) := by decide +kernel
theorem dX10_told_80 : decode cX10_told 80 = .ok (.ireturn, 1) := by decide +kernel
theorem dX10_told_81 : decode cX10_told 81 = .ok (.aload_n 3, 1) := by decide +kernel
theorem dX10_told_82 : decode cX10_told 82 = .ok (.getfield 131, 3) := by decide +kernel
theorem dX10_told_85 : decode cX10_told 85 = .ok (.ireturn, 1) := by decide +kernel
theorem dX10_told_86 : decode cX10_told 86 = .ok (.aload_n 3, 1) := by decide +kernel
theorem dX10_told_87 : decode cX10_told 87 = .ok (.getfield 134, 3) := by decide +kernel
theorem dX10_told_90 : decode cX10_told 90 = .ok (.ireturn, 1) := by decide +kernel
theorem dX10_told_91 : decode cX10_told 91 = .ok (.aload_n 3, 1) := by decide +kernel
theorem dX10_told_92 : decode cX10_told 92 = .ok (.getfield 137, 3) := by decide +kernel
theorem dX10_told_95 : decode cX10_told 95 = .ok (.ireturn, 1) := by decide +kernel
theorem dX10_told_96 : decode cX10_told 96 = .ok (.aload_n 3, 1) := by decide +kernel
theorem dX10_told_97 : decode cX10_told 97 = .ok (.aload_n 3, 1) := by decide +kernel
theorem dX10_told_98 : decode cX10_told 98 = .ok (.getfield 122, 3) := by decide +kernel
theorem dX10_told_101 : decode cX10_told 101 = .ok (.arraylength, 1) := by decide +kernel
theorem dX10_told_102 : decode cX10_told 102 = .ok (.invokevirtual 140, 3) := by decide +kernel
theorem dX10_told_105 : decode cX10_told 105 = .ok (.ireturn, 1) := by decide +kernel
theorem dX10_told_106 : decode cX10_told 106 = .ok (.iconst (-1), 1) := by decide +kernel
theorem dX10_told_107 : decode cX10_told 107 = .ok (.ireturn, 1) := by decide +kernel
theorem dX10_harvest_0 : decode cX10_harvest 0 = .ok (.aload_n 0, 1) := by decide +kernel
theorem dX10_harvest_1 : decode cX10_harvest 1 = .ok (.iload_n 1, 1) := by decide +kernel
theorem dX10_harvest_2 : decode cX10_harvest 2 = .ok (.invokevirtual 115, 3) := by decide +kernel
theorem dX10_harvest_5 : decode cX10_harvest 5 = .ok (.astore 5, 2) := by decide +kernel
theorem dX10_harvest_7 : decode cX10_harvest 7 = .ok (.aload 5, 2) := by decide +kernel
theorem dX10_harvest_9 : decode cX10_harvest 9 = .ok (.ifnull 35, 3) := by decide +kernel
theorem dX10_harvest_12 : decode cX10_harvest 12 = .ok (.iload_n 2, 1) := by decide +kernel
theorem dX10_harvest_13 : decode cX10_harvest 13 = .ok (.iconst 0, 1) := by decide +kernel
theorem dX10_harvest_14 : decode cX10_harvest 14 = .ok (.aload 5, 2) := by decide +kernel
theorem dX10_harvest_16 : decode cX10_harvest 16 = .ok (.getfield 119, 3) := by decide +kernel
theorem dX10_harvest_19 : decode cX10_harvest 19 = .ok (.iconst 1, 1) := by decide +kernel
theorem dX10_harvest_20 : decode cX10_harvest 20 = .ok (.isub, 1) := by decide +kernel
theorem dX10_harvest_21 : decode cX10_harvest 21 = .ok (.invokestatic 90, 3) := by decide +kernel
theorem dX10_harvest_24 : decode cX10_harvest 24 = .ok (.ifCond .eq 20, 3) := by decide +kernel
theorem dX10_harvest_27 : decode cX10_harvest 27 = .ok (.iload_n 3, 1) := by decide +kernel
theorem dX10_harvest_28 : decode cX10_harvest 28 = .ok (.iconst 0, 1) := by decide +kernel
theorem dX10_harvest_29 : decode cX10_harvest 29 = .ok (.aload 5, 2) := by decide +kernel
theorem dX10_harvest_31 : decode cX10_harvest 31 = .ok (.getfield 143, 3) := by decide +kernel
theorem dX10_harvest_34 : decode cX10_harvest 34 = .ok (.iload_n 2, 1) := by decide +kernel
theorem dX10_harvest_35 : decode cX10_harvest 35 = .ok (.iaload, 1) := by decide +kernel
theorem dX10_harvest_36 : decode cX10_harvest 36 = .ok (.iconst 1, 1) := by decide +kernel
theorem dX10_harvest_37 : decode cX10_harvest 37 = .ok (.isub, 1) := by decide +kernel
theorem dX10_harvest_38 : decode cX10_harvest 38 = .ok (.invokestatic 90, 3) := by decide +kernel
theorem dX10_harvest_41 : decode cX10_harvest 41 = .ok (.ifCond .ne 13, 3) := by decide +kernel
theorem dX10_harvest_44 : decode cX10_harvest 44 = .ok (.new 146, 3) := by decide +kernel
theorem dX10_harvest_47 : decode cX10_harvest 47 = .ok (.dup, 1) := by decide +kernel
theorem dX10_harvest_48 : decode cX10_harvest 48 = .ok (.ldc 148, 2) := by decide +kernel
theorem dX10_harvest_50 : decode cX10_harvest 50 = .ok (.invokespecial 150, 3) := by decide +kernel
theorem dX10_harvest_53 : decode cX10_harvest 53 = .ok (.athrow, 1) := by decide +kernel
theorem dX10_harvest_54 : decode cX10_harvest 54 = .ok (.iload 4, 2) := by decide +kernel
theorem dX10_harvest_56 : decode cX10_harvest 56 = .ok (.iconst 0, 1) := by decide +kernel
theorem dX10_harvest_57 : decode cX10_harvest 57 = .ok (.iconst 1, 1) := by decide +kernel
theorem dX10_harvest_58 : decode cX10_harvest 58 = .ok (.invokestatic 90, 3) := by decide +kernel
theorem dX10_harvest_61 : decode cX10_harvest 61 = .ok (.ifCond .ne 13, 3) := by decide +kernel
theorem dX10_harvest_64 : decode cX10_harvest 64 = .ok (.new 146, 3) := by decide +kernel
theorem dX10_harvest_67 : decode cX10_harvest 67 = .ok (.dup, 1) := by decide +kernel
theorem dX10_harvest_68 : decode cX10_harvest 68 = .ok (.ldc 153, 2) := by decide +kernel
theorem dX10_harvest_70 : decode cX10_harvest 70 = .ok (.invokespecial 150, 3) := by decide +kernel
theorem dX10_harvest_73 : decode cX10_harvest 73 = .ok (.athrow, 1) := by decide +kernel
theorem dX10_harvest_74 : decode cX10_harvest 74 = .ok (.iload_n 2, 1) := by decide +kernel
theorem dX10_harvest_75 : decode cX10_harvest 75 = .ok (.iconst 4, 1) := by decide +kernel
theorem dX10_harvest_76 : decode cX10_harvest 76 = .ok (.imul, 1) := by decide +kernel
theorem dX10_harvest_77 : decode cX10_harvest 77 = .ok (.iload_n 3, 1) := by decide +kernel
theorem dX10_harvest_78 : decode cX10_harvest 78 = .ok (.iadd, 1) := by decide +kernel
theorem dX10_harvest_79 : decode cX10_harvest 79 = .ok (.istore 6, 2) := by decide +kernel
theorem dX10_harvest_81 : decode cX10_harvest 81 = .ok (.iload 4, 2) := by decide +kernel
theorem dX10_harvest_83 : decode cX10_harvest 83 = .ok (.ifCond .ne 14, 3) := by decide +kernel
theorem dX10_harvest_86 : decode cX10_harvest 86 = .ok (.aload 5, 2) := by decide +kernel
theorem dX10_harvest_88 : decode cX10_harvest 88 = .ok (.getfield 155, 3) := by decide +kernel
theorem dX10_harvest_91 : decode cX10_harvest 91 = .ok (.iload 6, 2) := by decide +kernel
theorem dX10_harvest_93 : decode cX10_harvest 93 = .ok (.iaload, 1) := by decide +kernel
theorem dX10_harvest_94 : decode cX10_harvest 94 = .ok (.goto 11, 3) := by decide +kernel
theorem dX10_harvest_97 : decode cX10_harvest 97 = .ok (.aload 5, 2) := by decide +kernel
theorem dX10_harvest_99 : decode cX10_harvest 99 = .ok (.getfield 158, 3) := by decide +kernel
theorem dX10_harvest_102 : decode cX10_harvest 102 = .ok (.iload 6, 2) := by decide +kernel
theorem dX10_harvest_104 : decode cX10_harvest 104 = .ok (.iaload, 1) := by decide +kernel
theorem dX10_harvest_105 : decode cX10_harvest 105 = .ok (.ireturn, 1) := by decide +kernel
theorem dX10_eaten_0 : decode cX10_eaten 0 = .ok (.aload_n 0, 1) := by decide +kernel
theorem dX10_eaten_1 : decode cX10_eaten 1 = .ok (.iload_n 1, 1) := by decide +kernel
theorem dX10_eaten_2 : decode cX10_eaten 2 = .ok (.invokevirtual 115, 3) := by decide +kernel
theorem dX10_eaten_5 : decode cX10_eaten 5 = .ok (.astore 4, 2) := by decide +kernel
theorem dX10_eaten_7 : decode cX10_eaten 7 = .ok (.aload 4, 2) := by decide +kernel
theorem dX10_eaten_9 : decode cX10_eaten 9 = .ok (.ifnull 14, 3) := by decide +kernel
theorem dX10_eaten_12 : decode cX10_eaten 12 = .ok (.iload_n 2, 1) := by decide +kernel
theorem dX10_eaten_13 : decode cX10_eaten 13 = .ok (.iconst 0, 1) := by decide +kernel
theorem dX10_eaten_14 : decode cX10_eaten 14 = .ok (.sipush 200, 3) := by decide +kernel
theorem dX10_eaten_17 : decode cX10_eaten 17 = .ok (.invokestatic 90, 3) := by decide +kernel
theorem dX10_eaten_20 : decode cX10_eaten 20 = .ok (.ifCond .ne 5, 3) := by decide +kernel
theorem dX10_eaten_23 : decode cX10_eaten 23 = .ok (.iconst (-1), 1) := by decide +kernel
theorem dX10_eaten_24 : decode cX10_eaten 24 = .ok (.ireturn, 1) := by decide +kernel
theorem dX10_eaten_25 : decode cX10_eaten 25 = .ok (.iload_n 3, 1) := by decide +kernel
theorem dX10_eaten_26 : decode cX10_eaten 26 = .ok (.tableswitch 54 0 2 #[26, 33, 40], 26) := by decide +kernel
theorem dX10_eaten_52 : decode cX10_eaten 52 = .ok (.aload 4, 2) := by decide +kernel
theorem dX10_eaten_54 : decode cX10_eaten 54 = .ok (.iload_n 2, 1) := by decide +kernel
theorem dX10_eaten_55 : decode cX10_eaten 55 = .ok (.invokevirtual 140, 3) := by decide +kernel
theorem dX10_eaten_58 : decode cX10_eaten 58 = .ok (.ireturn, 1) := by decide +kernel
theorem dX10_eaten_59 : decode cX10_eaten 59 = .ok (.aload 4, 2) := by decide +kernel
theorem dX10_eaten_61 : decode cX10_eaten 61 = .ok (.iload_n 2, 1) := by decide +kernel
theorem dX10_eaten_62 : decode cX10_eaten 62 = .ok (.invokevirtual 161, 3) := by decide +kernel
theorem dX10_eaten_65 : decode cX10_eaten 65 = .ok (.ireturn, 1) := by decide +kernel
theorem dX10_eaten_66 : decode cX10_eaten 66 = .ok (.aload 4, 2) := by decide +kernel
theorem dX10_eaten_68 : decode cX10_eaten 68 = .ok (.getfield 122, 3) := by decide +kernel
theorem dX10_eaten_71 : decode cX10_eaten 71 = .ok (.arraylength, 1) := by decide +kernel
theorem dX10_eaten_72 : decode cX10_eaten 72 = .ok (.aload 4, 2) := by decide +kernel
theorem dX10_eaten_74 : decode cX10_eaten 74 = .ok (.iload_n 2, 1) := by decide +kernel
theorem dX10_eaten_75 : decode cX10_eaten 75 = .ok (.invokevirtual 164, 3) := by decide +kernel
theorem dX10_eaten_78 : decode cX10_eaten 78 = .ok (.isub, 1) := by decide +kernel
theorem dX10_eaten_79 : decode cX10_eaten 79 = .ok (.ireturn, 1) := by decide +kernel
theorem dX10_eaten_80 : decode cX10_eaten 80 = .ok (.iconst (-1), 1) := by decide +kernel
theorem dX10_eaten_81 : decode cX10_eaten 81 = .ok (.ireturn, 1) := by decide +kernel
theorem dX10_left_0 : decode cX10_left 0 = .ok (.aload_n 0, 1) := by decide +kernel
theorem dX10_left_1 : decode cX10_left 1 = .ok (.iload_n 1, 1) := by decide +kernel
theorem dX10_left_2 : decode cX10_left 2 = .ok (.invokevirtual 115, 3) := by decide +kernel
theorem dX10_left_5 : decode cX10_left 5 = .ok (.astore_n 3, 1) := by decide +kernel
theorem dX10_left_6 : decode cX10_left 6 = .ok (.aload_n 3, 1) := by decide +kernel
theorem dX10_left_7 : decode cX10_left 7 = .ok (.ifnull 13, 3) := by decide +kernel
theorem dX10_left_10 : decode cX10_left 10 = .ok (.iload_n 2, 1) := by decide +kernel
theorem dX10_left_11 : decode cX10_left 11 = .ok (.iconst 0, 1) := by decide +kernel
theorem dX10_left_12 : decode cX10_left 12 = .ok (.bipush 20, 2) := by decide +kernel
theorem dX10_left_14 : decode cX10_left 14 = .ok (.invokestatic 90, 3) := by decide +kernel
theorem dX10_left_17 : decode cX10_left 17 = .ok (.ifCond .ne 7, 3) := by decide +kernel
theorem dX10_left_20 : decode cX10_left 20 = .ok (.iconst (-1), 1) := by decide +kernel
theorem dX10_left_21 : decode cX10_left 21 = .ok (.goto 8, 3) := by decide +kernel
theorem dX10_left_24 : decode cX10_left 24 = .ok (.aload_n 3, 1) := by decide +kernel
theorem dX10_left_25 : decode cX10_left 25 = .ok (.iload_n 2, 1) := by decide +kernel
theorem dX10_left_26 : decode cX10_left 26 = .ok (.invokevirtual 167, 3) := by decide +kernel
theorem dX10_left_29 : decode cX10_left 29 = .ok (.ireturn, 1) := by decide +kernel
theorem dX10_law_0 : decode cX10_law 0 = .ok (.aload_n 0, 1) := by decide +kernel
theorem dX10_law_1 : decode cX10_law 1 = .ok (.iload_n 1, 1) := by decide +kernel
theorem dX10_law_2 : decode cX10_law 2 = .ok (.invokevirtual 115, 3) := by decide +kernel
theorem dX10_law_5 : decode cX10_law 5 = .ok (.astore_n 3, 1) := by decide +kernel
theorem dX10_law_6 : decode cX10_law 6 = .ok (.aload_n 3, 1) := by decide +kernel
theorem dX10_law_7 : decode cX10_law 7 = .ok (.ifnull 13, 3) := by decide +kernel
theorem dX10_law_10 : decode cX10_law 10 = .ok (.iload_n 2, 1) := by decide +kernel
theorem dX10_law_11 : decode cX10_law 11 = .ok (.iconst 0, 1) := by decide +kernel
theorem dX10_law_12 : decode cX10_law 12 = .ok (.bipush 20, 2) := by decide +kernel
theorem dX10_law_14 : decode cX10_law 14 = .ok (.invokestatic 90, 3) := by decide +kernel
theorem dX10_law_17 : decode cX10_law 17 = .ok (.ifCond .ne 5, 3) := by decide +kernel
theorem dX10_law_20 : decode cX10_law 20 = .ok (.iconst 0, 1) := by decide +kernel
theorem dX10_law_21 : decode cX10_law 21 = .ok (.ireturn, 1) := by decide +kernel
theorem dX10_law_22 : decode cX10_law 22 = .ok (.aload_n 3, 1) := by decide +kernel
theorem dX10_law_23 : decode cX10_law 23 = .ok (.iload_n 2, 1) := by decide +kernel
theorem dX10_law_24 : decode cX10_law 24 = .ok (.putfield 134, 3) := by decide +kernel
theorem dX10_law_27 : decode cX10_law 27 = .ok (.aload_n 3, 1) := by decide +kernel
theorem dX10_law_28 : decode cX10_law 28 = .ok (.invokevirtual 170, 3) := by decide +kernel
theorem dX10_law_31 : decode cX10_law 31 = .ok (.iconst 1, 1) := by decide +kernel
theorem dX10_law_32 : decode cX10_law 32 = .ok (.ireturn, 1) := by decide +kernel
theorem dX10_by_0 : decode cX10_by 0 = .ok (.aload_n 0, 1) := by decide +kernel
theorem dX10_by_1 : decode cX10_by 1 = .ok (.iload_n 1, 1) := by decide +kernel
theorem dX10_by_2 : decode cX10_by 2 = .ok (.invokevirtual 115, 3) := by decide +kernel
theorem dX10_by_5 : decode cX10_by 5 = .ok (.astore_n 3, 1) := by decide +kernel
theorem dX10_by_6 : decode cX10_by 6 = .ok (.aload_n 3, 1) := by decide +kernel
theorem dX10_by_7 : decode cX10_by 7 = .ok (.ifnull 17, 3) := by decide +kernel
theorem dX10_by_10 : decode cX10_by 10 = .ok (.iload_n 2, 1) := by decide +kernel
theorem dX10_by_11 : decode cX10_by 11 = .ok (.iconst (-1), 1) := by decide +kernel
theorem dX10_by_12 : decode cX10_by 12 = .ok (.aload_n 0, 1) := by decide +kernel
theorem dX10_by_13 : decode cX10_by 13 = .ok (.getfield 105, 3) := by decide +kernel
theorem dX10_by_16 : decode cX10_by 16 = .ok (.iconst 1, 1) := by decide +kernel
theorem dX10_by_17 : decode cX10_by 17 = .ok (.isub, 1) := by decide +kernel
theorem dX10_by_18 : decode cX10_by 18 = .ok (.invokestatic 90, 3) := by decide +kernel
theorem dX10_by_21 : decode cX10_by 21 = .ok (.ifCond .ne 5, 3) := by decide +kernel
theorem dX10_by_24 : decode cX10_by 24 = .ok (.iconst 0, 1) := by decide +kernel
theorem dX10_by_25 : decode cX10_by 25 = .ok (.ireturn, 1) := by decide +kernel
theorem dX10_by_26 : decode cX10_by 26 = .ok (.aload_n 3, 1) := by decide +kernel
theorem dX10_by_27 : decode cX10_by 27 = .ok (.iload_n 2, 1) := by decide +kernel
theorem dX10_by_28 : decode cX10_by 28 = .ok (.putfield 137, 3) := by decide +kernel
theorem dX10_by_31 : decode cX10_by 31 = .ok (.aload_n 3, 1) := by decide +kernel
theorem dX10_by_32 : decode cX10_by 32 = .ok (.iload_n 2, 1) := by decide +kernel
theorem dX10_by_33 : decode cX10_by 33 = .ok (.iconst (-1), 1) := by decide +kernel
theorem dX10_by_34 : decode cX10_by 34 = .ok (.if_icmp .ne 7, 3) := by decide +kernel
theorem dX10_by_37 : decode cX10_by 37 = .ok (.aconst_null, 1) := by decide +kernel
theorem dX10_by_38 : decode cX10_by 38 = .ok (.goto 9, 3) := by decide +kernel
theorem dX10_by_41 : decode cX10_by 41 = .ok (.aload_n 0, 1) := by decide +kernel
theorem dX10_by_42 : decode cX10_by 42 = .ok (.getfield 40, 3) := by decide +kernel
theorem dX10_by_45 : decode cX10_by 45 = .ok (.iload_n 2, 1) := by decide +kernel
theorem dX10_by_46 : decode cX10_by 46 = .ok (.aaload, 1) := by decide +kernel
theorem dX10_by_47 : decode cX10_by 47 = .ok (.putfield 173, 3) := by decide +kernel
theorem dX10_by_50 : decode cX10_by 50 = .ok (.aload_n 3, 1) := by decide +kernel
theorem dX10_by_51 : decode cX10_by 51 = .ok (.invokevirtual 170, 3) := by decide +kernel
theorem dX10_by_54 : decode cX10_by 54 = .ok (.iconst 1, 1) := by decide +kernel
theorem dX10_by_55 : decode cX10_by 55 = .ok (.ireturn, 1) := by decide +kernel
theorem dX10_worth_0 : decode cX10_worth 0 = .ok (.iload_n 1, 1) := by decide +kernel
theorem dX10_worth_1 : decode cX10_worth 1 = .ok (.iconst 0, 1) := by decide +kernel
theorem dX10_worth_2 : decode cX10_worth 2 = .ok (.aload_n 0, 1) := by decide +kernel
theorem dX10_worth_3 : decode cX10_worth 3 = .ok (.getfield 105, 3) := by decide +kernel
theorem dX10_worth_6 : decode cX10_worth 6 = .ok (.iconst 1, 1) := by decide +kernel
theorem dX10_worth_7 : decode cX10_worth 7 = .ok (.isub, 1) := by decide +kernel
theorem dX10_worth_8 : decode cX10_worth 8 = .ok (.invokestatic 90, 3) := by decide +kernel
theorem dX10_worth_11 : decode cX10_worth 11 = .ok (.ifCond .ne 13, 3) := by decide +kernel
theorem dX10_worth_14 : decode cX10_worth 14 = .ok (.new 146, 3) := by decide +kernel
theorem dX10_worth_17 : decode cX10_worth 17 = .ok (.dup, 1) := by decide +kernel
theorem dX10_worth_18 : decode cX10_worth 18 = .ok (.ldc 177, 2) := by decide +kernel
theorem dX10_worth_20 : decode cX10_worth 20 = .ok (.invokespecial 150, 3) := by decide +kernel
theorem dX10_worth_23 : decode cX10_worth 23 = .ok (.athrow, 1) := by decide +kernel
theorem dX10_worth_24 : decode cX10_worth 24 = .ok (.aload_n 0, 1) := by decide +kernel
theorem dX10_worth_25 : decode cX10_worth 25 = .ok (.getfield 40, 3) := by decide +kernel
theorem dX10_worth_28 : decode cX10_worth 28 = .ok (.iload_n 1, 1) := by decide +kernel
theorem dX10_worth_29 : decode cX10_worth 29 = .ok (.aaload, 1) := by decide +kernel
theorem dX10_worth_30 : decode cX10_worth 30 = .ok (.iload_n 2, 1) := by decide +kernel
theorem dX10_worth_31 : decode cX10_worth 31 = .ok (.iload_n 3, 1) := by decide +kernel
theorem dX10_worth_32 : decode cX10_worth 32 = .ok (.iload 4, 2) := by decide +kernel
theorem dX10_worth_34 : decode cX10_worth 34 = .ok (.iload 5, 2) := by decide +kernel
theorem dX10_worth_36 : decode cX10_worth 36 = .ok (.iload 6, 2) := by decide +kernel
theorem dX10_worth_38 : decode cX10_worth 38 = .ok (.invokevirtual 179, 3) := by decide +kernel
theorem dX10_worth_41 : decode cX10_worth 41 = .ok (.ireturn, 1) := by decide +kernel
theorem dX10_keep_0 : decode cX10_keep 0 = .ok (.aload_n 0, 1) := by decide +kernel
theorem dX10_keep_1 : decode cX10_keep 1 = .ok (.iload_n 1, 1) := by decide +kernel
theorem dX10_keep_2 : decode cX10_keep 2 = .ok (.iload_n 2, 1) := by decide +kernel
theorem dX10_keep_3 : decode cX10_keep 3 = .ok (.iload_n 3, 1) := by decide +kernel
theorem dX10_keep_4 : decode cX10_keep 4 = .ok (.iload 4, 2) := by decide +kernel
theorem dX10_keep_6 : decode cX10_keep 6 = .ok (.iload 5, 2) := by decide +kernel
theorem dX10_keep_8 : decode cX10_keep 8 = .ok (.invokevirtual 183, 3) := by decide +kernel
theorem dX10_keep_11 : decode cX10_keep 11 = .ok (.astore 6, 2) := by decide +kernel
theorem dX10_keep_13 : decode cX10_keep 13 = .ok (.aload 6, 2) := by decide +kernel
theorem dX10_keep_15 : decode cX10_keep 15 = .ok (.ifnonnull 7, 3) := by decide +kernel
theorem dX10_keep_18 : decode cX10_keep 18 = .ok (.iconst (-1), 1) := by decide +kernel
theorem dX10_keep_19 : decode cX10_keep 19 = .ok (.goto 13, 3) := by decide +kernel
theorem dX10_keep_22 : decode cX10_keep 22 = .ok (.aload 6, 2) := by decide +kernel
theorem dX10_keep_24 : decode cX10_keep 24 = .ok (.iload_n 3, 1) := by decide +kernel
theorem dX10_keep_25 : decode cX10_keep 25 = .ok (.iload 4, 2) := by decide +kernel
theorem dX10_keep_27 : decode cX10_keep 27 = .ok (.iload 5, 2) := by decide +kernel
theorem dX10_keep_29 : decode cX10_keep 29 = .ok (.invokevirtual 187, 3) := by decide +kernel
theorem dX10_keep_32 : decode cX10_keep 32 = .ok (.ireturn, 1) := by decide +kernel
theorem dX10_sold_0 : decode cX10_sold 0 = .ok (.aload_n 0, 1) := by decide +kernel
theorem dX10_sold_1 : decode cX10_sold 1 = .ok (.iload_n 1, 1) := by decide +kernel
theorem dX10_sold_2 : decode cX10_sold 2 = .ok (.iload_n 2, 1) := by decide +kernel
theorem dX10_sold_3 : decode cX10_sold 3 = .ok (.iload_n 3, 1) := by decide +kernel
theorem dX10_sold_4 : decode cX10_sold 4 = .ok (.iload 4, 2) := by decide +kernel
theorem dX10_sold_6 : decode cX10_sold 6 = .ok (.iload 5, 2) := by decide +kernel
theorem dX10_sold_8 : decode cX10_sold 8 = .ok (.invokevirtual 183, 3) := by decide +kernel
theorem dX10_sold_11 : decode cX10_sold 11 = .ok (.astore 6, 2) := by decide +kernel
theorem dX10_sold_13 : decode cX10_sold 13 = .ok (.aload 6, 2) := by decide +kernel
theorem dX10_sold_15 : decode cX10_sold 15 = .ok (.ifnonnull 7, 3) := by decide +kernel
theorem dX10_sold_18 : decode cX10_sold 18 = .ok (.iconst (-1), 1) := by decide +kernel
theorem dX10_sold_19 : decode cX10_sold 19 = .ok (.goto 21, 3) := by decide +kernel
theorem dX10_sold_22 : decode cX10_sold 22 = .ok (.aload 6, 2) := by decide +kernel
theorem dX10_sold_24 : decode cX10_sold 24 = .ok (.iload 5, 2) := by decide +kernel
theorem dX10_sold_26 : decode cX10_sold 26 = .ok (.aload 6, 2) := by decide +kernel
theorem dX10_sold_28 : decode cX10_sold 28 = .ok (.iload_n 3, 1) := by decide +kernel
theorem dX10_sold_29 : decode cX10_sold 29 = .ok (.iload 4, 2) := by decide +kernel
theorem dX10_sold_31 : decode cX10_sold 31 = .ok (.iload 5, 2) := by decide +kernel
theorem dX10_sold_33 : decode cX10_sold 33 = .ok (.invokevirtual 187, 3) := by decide +kernel
theorem dX10_sold_36 : decode cX10_sold 36 = .ok (.isub, 1) := by decide +kernel
theorem dX10_sold_37 : decode cX10_sold 37 = .ok (.invokevirtual 193, 3) := by decide +kernel
theorem dX10_sold_40 : decode cX10_sold 40 = .ok (.ireturn, 1) := by decide +kernel
theorem dX10_price_0 : decode cX10_price 0 = .ok (.aload_n 0, 1) := by decide +kernel
theorem dX10_price_1 : decode cX10_price 1 = .ok (.iload_n 1, 1) := by decide +kernel
theorem dX10_price_2 : decode cX10_price 2 = .ok (.iload_n 2, 1) := by decide +kernel
theorem dX10_price_3 : decode cX10_price 3 = .ok (.iload_n 3, 1) := by decide +kernel
theorem dX10_price_4 : decode cX10_price 4 = .ok (.iload 4, 2) := by decide +kernel
theorem dX10_price_6 : decode cX10_price 6 = .ok (.iload 5, 2) := by decide +kernel
theorem dX10_price_8 : decode cX10_price 8 = .ok (.invokevirtual 183, 3) := by decide +kernel
theorem dX10_price_11 : decode cX10_price 11 = .ok (.astore 6, 2) := by decide +kernel
theorem dX10_price_13 : decode cX10_price 13 = .ok (.aload 6, 2) := by decide +kernel
theorem dX10_price_15 : decode cX10_price 15 = .ok (.ifnonnull 7, 3) := by decide +kernel
theorem dX10_price_18 : decode cX10_price 18 = .ok (.iconst (-1), 1) := by decide +kernel
theorem dX10_price_19 : decode cX10_price 19 = .ok (.goto 21, 3) := by decide +kernel
theorem dX10_price_22 : decode cX10_price 22 = .ok (.aload 6, 2) := by decide +kernel
theorem dX10_price_24 : decode cX10_price 24 = .ok (.iload 5, 2) := by decide +kernel
theorem dX10_price_26 : decode cX10_price 26 = .ok (.aload 6, 2) := by decide +kernel
theorem dX10_price_28 : decode cX10_price 28 = .ok (.iload_n 3, 1) := by decide +kernel
theorem dX10_price_29 : decode cX10_price 29 = .ok (.iload 4, 2) := by decide +kernel
theorem dX10_price_31 : decode cX10_price 31 = .ok (.iload 5, 2) := by decide +kernel
theorem dX10_price_33 : decode cX10_price 33 = .ok (.invokevirtual 187, 3) := by decide +kernel
theorem dX10_price_36 : decode cX10_price 36 = .ok (.isub, 1) := by decide +kernel
theorem dX10_price_37 : decode cX10_price 37 = .ok (.invokevirtual 196, 3) := by decide +kernel
theorem dX10_price_40 : decode cX10_price 40 = .ok (.ireturn, 1) := by decide +kernel
theorem dX10_below_0 : decode cX10_below 0 = .ok (.aload_n 0, 1) := by decide +kernel
theorem dX10_below_1 : decode cX10_below 1 = .ok (.iload_n 1, 1) := by decide +kernel
theorem dX10_below_2 : decode cX10_below 2 = .ok (.iload_n 2, 1) := by decide +kernel
theorem dX10_below_3 : decode cX10_below 3 = .ok (.iload_n 3, 1) := by decide +kernel
theorem dX10_below_4 : decode cX10_below 4 = .ok (.iconst 0, 1) := by decide +kernel
theorem dX10_below_5 : decode cX10_below 5 = .ok (.invokevirtual 199, 3) := by decide +kernel
theorem dX10_below_8 : decode cX10_below 8 = .ok (.astore 4, 2) := by decide +kernel
theorem dX10_below_10 : decode cX10_below 10 = .ok (.aload 4, 2) := by decide +kernel
theorem dX10_below_12 : decode cX10_below 12 = .ok (.ifnonnull 9, 3) := by decide +kernel
theorem dX10_below_15 : decode cX10_below 15 = .ok (.ldc2_w 203, 3) := by decide +kernel
theorem dX10_below_18 : decode cX10_below 18 = .ok (.goto 10, 3) := by decide +kernel
theorem dX10_below_21 : decode cX10_below 21 = .ok (.aload 4, 2) := by decide +kernel
theorem dX10_below_23 : decode cX10_below 23 = .ok (.iload_n 2, 1) := by decide +kernel
theorem dX10_below_24 : decode cX10_below 24 = .ok (.iload_n 3, 1) := by decide +kernel
theorem dX10_below_25 : decode cX10_below 25 = .ok (.invokevirtual 205, 3) := by decide +kernel
theorem dX10_below_28 : decode cX10_below 28 = .ok (.lreturn, 1) := by decide +kernel
theorem dX10_welfare_0 : decode cX10_welfare 0 = .ok (.aload_n 0, 1) := by decide +kernel
theorem dX10_welfare_1 : decode cX10_welfare 1 = .ok (.iload_n 1, 1) := by decide +kernel
theorem dX10_welfare_2 : decode cX10_welfare 2 = .ok (.iload_n 2, 1) := by decide +kernel
theorem dX10_welfare_3 : decode cX10_welfare 3 = .ok (.iload_n 3, 1) := by decide +kernel
theorem dX10_welfare_4 : decode cX10_welfare 4 = .ok (.iload 4, 2) := by decide +kernel
theorem dX10_welfare_6 : decode cX10_welfare 6 = .ok (.iload 5, 2) := by decide +kernel
theorem dX10_welfare_8 : decode cX10_welfare 8 = .ok (.invokevirtual 183, 3) := by decide +kernel
theorem dX10_welfare_11 : decode cX10_welfare 11 = .ok (.astore 6, 2) := by decide +kernel
theorem dX10_welfare_13 : decode cX10_welfare 13 = .ok (.aload 6, 2) := by decide +kernel
theorem dX10_welfare_15 : decode cX10_welfare 15 = .ok (.ifnonnull 9, 3) := by decide +kernel
theorem dX10_welfare_18 : decode cX10_welfare 18 = .ok (.ldc2_w 203, 3) := by decide +kernel
theorem dX10_welfare_21 : decode cX10_welfare 21 = .ok (.goto 13, 3) := by decide +kernel
theorem dX10_welfare_24 : decode cX10_welfare 24 = .ok (.aload 6, 2) := by decide +kernel
theorem dX10_welfare_26 : decode cX10_welfare 26 = .ok (.iload_n 3, 1) := by decide +kernel
theorem dX10_welfare_27 : decode cX10_welfare 27 = .ok (.iload 4, 2) := by decide +kernel
theorem dX10_welfare_29 : decode cX10_welfare 29 = .ok (.iload 5, 2) := by decide +kernel
theorem dX10_welfare_31 : decode cX10_welfare 31 = .ok (.invokevirtual 209, 3) := by decide +kernel
theorem dX10_welfare_34 : decode cX10_welfare 34 = .ok (.lreturn, 1) := by decide +kernel
theorem dX10_takings_0 : decode cX10_takings 0 = .ok (.aload_n 0, 1) := by decide +kernel
theorem dX10_takings_1 : decode cX10_takings 1 = .ok (.iload_n 1, 1) := by decide +kernel
theorem dX10_takings_2 : decode cX10_takings 2 = .ok (.iconst 3, 1) := by decide +kernel
theorem dX10_takings_3 : decode cX10_takings 3 = .ok (.iload_n 2, 1) := by decide +kernel
theorem dX10_takings_4 : decode cX10_takings 4 = .ok (.iload_n 3, 1) := by decide +kernel
theorem dX10_takings_5 : decode cX10_takings 5 = .ok (.iload 4, 2) := by decide +kernel
theorem dX10_takings_7 : decode cX10_takings 7 = .ok (.invokevirtual 183, 3) := by decide +kernel
theorem dX10_takings_10 : decode cX10_takings 10 = .ok (.astore 5, 2) := by decide +kernel
theorem dX10_takings_12 : decode cX10_takings 12 = .ok (.aload 5, 2) := by decide +kernel
theorem dX10_takings_14 : decode cX10_takings 14 = .ok (.ifnonnull 9, 3) := by decide +kernel
theorem dX10_takings_17 : decode cX10_takings 17 = .ok (.ldc2_w 203, 3) := by decide +kernel
theorem dX10_takings_20 : decode cX10_takings 20 = .ok (.goto 12, 3) := by decide +kernel
theorem dX10_takings_23 : decode cX10_takings 23 = .ok (.aload 5, 2) := by decide +kernel
theorem dX10_takings_25 : decode cX10_takings 25 = .ok (.iload_n 2, 1) := by decide +kernel
theorem dX10_takings_26 : decode cX10_takings 26 = .ok (.iload_n 3, 1) := by decide +kernel
theorem dX10_takings_27 : decode cX10_takings 27 = .ok (.iload 4, 2) := by decide +kernel
theorem dX10_takings_29 : decode cX10_takings 29 = .ok (.invokevirtual 213, 3) := by decide +kernel
theorem dX10_takings_32 : decode cX10_takings 32 = .ok (.lreturn, 1) := by decide +kernel
theorem dX10_unlike_0 : decode cX10_unlike 0 = .ok (.aload_n 0, 1) := by decide +kernel
theorem dX10_unlike_1 : decode cX10_unlike 1 = .ok (.iload_n 1, 1) := by decide +kernel
theorem dX10_unlike_2 : decode cX10_unlike 2 = .ok (.iconst 1, 1) := by decide +kernel
theorem dX10_unlike_3 : decode cX10_unlike 3 = .ok (.iload_n 2, 1) := by decide +kernel
theorem dX10_unlike_4 : decode cX10_unlike 4 = .ok (.iload_n 3, 1) := by decide +kernel
theorem dX10_unlike_5 : decode cX10_unlike 5 = .ok (.iconst 0, 1) := by decide +kernel
theorem dX10_unlike_6 : decode cX10_unlike 6 = .ok (.invokevirtual 183, 3) := by decide +kernel
theorem dX10_unlike_9 : decode cX10_unlike 9 = .ok (.astore 4, 2) := by decide +kernel
theorem dX10_unlike_11 : decode cX10_unlike 11 = .ok (.aload_n 0, 1) := by decide +kernel
theorem dX10_unlike_12 : decode cX10_unlike 12 = .ok (.iload_n 1, 1) := by decide +kernel
theorem dX10_unlike_13 : decode cX10_unlike 13 = .ok (.iconst 2, 1) := by decide +kernel
theorem dX10_unlike_14 : decode cX10_unlike 14 = .ok (.iload_n 2, 1) := by decide +kernel
theorem dX10_unlike_15 : decode cX10_unlike 15 = .ok (.iload_n 3, 1) := by decide +kernel
theorem dX10_unlike_16 : decode cX10_unlike 16 = .ok (.iconst 0, 1) := by decide +kernel
theorem dX10_unlike_17 : decode cX10_unlike 17 = .ok (.invokevirtual 183, 3) := by decide +kernel
theorem dX10_unlike_20 : decode cX10_unlike 20 = .ok (.astore 5, 2) := by decide +kernel
theorem dX10_unlike_22 : decode cX10_unlike 22 = .ok (.aload 4, 2) := by decide +kernel
theorem dX10_unlike_24 : decode cX10_unlike 24 = .ok (.ifnull 8, 3) := by decide +kernel
theorem dX10_unlike_27 : decode cX10_unlike 27 = .ok (.aload 5, 2) := by decide +kernel
theorem dX10_unlike_29 : decode cX10_unlike 29 = .ok (.ifnonnull 5, 3) := by decide +kernel
theorem dX10_unlike_32 : decode cX10_unlike 32 = .ok (.iconst (-1), 1) := by decide +kernel
theorem dX10_unlike_33 : decode cX10_unlike 33 = .ok (.ireturn, 1) := by decide +kernel
theorem dX10_unlike_34 : decode cX10_unlike 34 = .ok (.iconst 0, 1) := by decide +kernel
theorem dX10_unlike_35 : decode cX10_unlike 35 = .ok (.istore 6, 2) := by decide +kernel
theorem dX10_unlike_37 : decode cX10_unlike 37 = .ok (.iload 6, 2) := by decide +kernel
theorem dX10_unlike_39 : decode cX10_unlike 39 = .ok (.bipush 40, 2) := by decide +kernel
theorem dX10_unlike_41 : decode cX10_unlike 41 = .ok (.if_icmp .gt 33, 3) := by decide +kernel
theorem dX10_unlike_44 : decode cX10_unlike 44 = .ok (.aload 4, 2) := by decide +kernel
theorem dX10_unlike_46 : decode cX10_unlike 46 = .ok (.iload_n 2, 1) := by decide +kernel
theorem dX10_unlike_47 : decode cX10_unlike 47 = .ok (.iload_n 3, 1) := by decide +kernel
theorem dX10_unlike_48 : decode cX10_unlike 48 = .ok (.iload 6, 2) := by decide +kernel
theorem dX10_unlike_50 : decode cX10_unlike 50 = .ok (.invokevirtual 187, 3) := by decide +kernel
theorem dX10_unlike_53 : decode cX10_unlike 53 = .ok (.aload 5, 2) := by decide +kernel
theorem dX10_unlike_55 : decode cX10_unlike 55 = .ok (.iload_n 2, 1) := by decide +kernel
theorem dX10_unlike_56 : decode cX10_unlike 56 = .ok (.iload_n 3, 1) := by decide +kernel
theorem dX10_unlike_57 : decode cX10_unlike 57 = .ok (.iload 6, 2) := by decide +kernel
theorem dX10_unlike_59 : decode cX10_unlike 59 = .ok (.invokevirtual 187, 3) := by decide +kernel
theorem dX10_unlike_62 : decode cX10_unlike 62 = .ok (.if_icmp .eq 6, 3) := by decide +kernel
theorem dX10_unlike_65 : decode cX10_unlike 65 = .ok (.iload 6, 2) := by decide +kernel
theorem dX10_unlike_67 : decode cX10_unlike 67 = .ok (.ireturn, 1) := by decide +kernel
theorem dX10_unlike_68 : decode cX10_unlike 68 = .ok (.iinc 6 1, 3) := by decide +kernel
theorem dX10_unlike_71 : decode cX10_unlike 71 = .ok (.goto (-34), 3) := by decide +kernel
theorem dX10_unlike_74 : decode cX10_unlike 74 = .ok (.iconst (-1), 1) := by decide +kernel
theorem dX10_unlike_75 : decode cX10_unlike 75 = .ok (.ireturn, 1) := by decide +kernel
theorem dX10_ever_0 : decode cX10_ever 0 = .ok (.aload_n 0, 1) := by decide +kernel
theorem dX10_ever_1 : decode cX10_ever 1 = .ok (.iload_n 1, 1) := by decide +kernel
theorem dX10_ever_2 : decode cX10_ever 2 = .ok (.iload_n 2, 1) := by decide +kernel
theorem dX10_ever_3 : decode cX10_ever 3 = .ok (.iconst 1, 1) := by decide +kernel
theorem dX10_ever_4 : decode cX10_ever 4 = .ok (.iconst 0, 1) := by decide +kernel
theorem dX10_ever_5 : decode cX10_ever 5 = .ok (.iconst 0, 1) := by decide +kernel
theorem dX10_ever_6 : decode cX10_ever 6 = .ok (.invokevirtual 183, 3) := by decide +kernel
theorem dX10_ever_9 : decode cX10_ever 9 = .ok (.astore_n 3, 1) := by decide +kernel
theorem dX10_ever_10 : decode cX10_ever 10 = .ok (.aload_n 3, 1) := by decide +kernel
theorem dX10_ever_11 : decode cX10_ever 11 = .ok (.ifnonnull 5, 3) := by decide +kernel
theorem dX10_ever_14 : decode cX10_ever 14 = .ok (.iconst (-1), 1) := by decide +kernel
theorem dX10_ever_15 : decode cX10_ever 15 = .ok (.ireturn, 1) := by decide +kernel
theorem dX10_ever_16 : decode cX10_ever 16 = .ok (.iconst 2, 1) := by decide +kernel
theorem dX10_ever_17 : decode cX10_ever 17 = .ok (.istore 4, 2) := by decide +kernel
theorem dX10_ever_19 : decode cX10_ever 19 = .ok (.iload 4, 2) := by decide +kernel
theorem dX10_ever_21 : decode cX10_ever 21 = .ok (.bipush 12, 2) := by decide +kernel
theorem dX10_ever_23 : decode cX10_ever 23 = .ok (.if_icmp .ge 21, 3) := by decide +kernel
theorem dX10_ever_26 : decode cX10_ever 26 = .ok (.aload_n 3, 1) := by decide +kernel
theorem dX10_ever_27 : decode cX10_ever 27 = .ok (.iload 4, 2) := by decide +kernel
theorem dX10_ever_29 : decode cX10_ever 29 = .ok (.invokevirtual 216, 3) := by decide +kernel
theorem dX10_ever_32 : decode cX10_ever 32 = .ok (.ifCond .eq 6, 3) := by decide +kernel
theorem dX10_ever_35 : decode cX10_ever 35 = .ok (.iload 4, 2) := by decide +kernel
theorem dX10_ever_37 : decode cX10_ever 37 = .ok (.ireturn, 1) := by decide +kernel
theorem dX10_ever_38 : decode cX10_ever 38 = .ok (.iinc 4 1, 3) := by decide +kernel
theorem dX10_ever_41 : decode cX10_ever 41 = .ok (.goto (-22), 3) := by decide +kernel
theorem dX10_ever_44 : decode cX10_ever 44 = .ok (.iconst (-1), 1) := by decide +kernel
theorem dX10_ever_45 : decode cX10_ever 45 = .ok (.ireturn, 1) := by decide +kernel
theorem dX10_edge_0 : decode cX10_edge 0 = .ok (.aload_n 0, 1) := by decide +kernel
theorem dX10_edge_1 : decode cX10_edge 1 = .ok (.iload_n 1, 1) := by decide +kernel
theorem dX10_edge_2 : decode cX10_edge 2 = .ok (.iload_n 2, 1) := by decide +kernel
theorem dX10_edge_3 : decode cX10_edge 3 = .ok (.iload_n 3, 1) := by decide +kernel
theorem dX10_edge_4 : decode cX10_edge 4 = .ok (.iload 4, 2) := by decide +kernel
theorem dX10_edge_6 : decode cX10_edge 6 = .ok (.invokevirtual 199, 3) := by decide +kernel
theorem dX10_edge_9 : decode cX10_edge 9 = .ok (.astore 5, 2) := by decide +kernel
theorem dX10_edge_11 : decode cX10_edge 11 = .ok (.aload 5, 2) := by decide +kernel
theorem dX10_edge_13 : decode cX10_edge 13 = .ok (.ifnonnull 5, 3) := by decide +kernel
theorem dX10_edge_16 : decode cX10_edge 16 = .ok (.iconst (-1), 1) := by decide +kernel
theorem dX10_edge_17 : decode cX10_edge 17 = .ok (.ireturn, 1) := by decide +kernel
theorem dX10_edge_18 : decode cX10_edge 18 = .ok (.aload 5, 2) := by decide +kernel
theorem dX10_edge_20 : decode cX10_edge 20 = .ok (.invokevirtual 220, 3) := by decide +kernel
theorem dX10_edge_23 : decode cX10_edge 23 = .ok (.astore 6, 2) := by decide +kernel
theorem dX10_edge_25 : decode cX10_edge 25 = .ok (.iconst 0, 1) := by decide +kernel
theorem dX10_edge_26 : decode cX10_edge 26 = .ok (.istore 7, 2) := by decide +kernel
theorem dX10_edge_28 : decode cX10_edge 28 = .ok (.iload 7, 2) := by decide +kernel
theorem dX10_edge_30 : decode cX10_edge 30 = .ok (.bipush 30, 2) := by decide +kernel
theorem dX10_edge_32 : decode cX10_edge 32 = .ok (.if_icmp .gt 38, 3) := by decide +kernel
theorem dX10_edge_35 : decode cX10_edge 35 = .ok (.aload 6, 2) := by decide +kernel
theorem dX10_edge_37 : decode cX10_edge 37 = .ok (.iload 7, 2) := by decide +kernel
theorem dX10_edge_39 : decode cX10_edge 39 = .ok (.invokevirtual 224, 3) := by decide +kernel
theorem dX10_edge_42 : decode cX10_edge 42 = .ok (.aload 6, 2) := by decide +kernel
theorem dX10_edge_44 : decode cX10_edge 44 = .ok (.iload_n 2, 1) := by decide +kernel
theorem dX10_edge_45 : decode cX10_edge 45 = .ok (.iload_n 3, 1) := by decide +kernel
theorem dX10_edge_46 : decode cX10_edge 46 = .ok (.invokevirtual 227, 3) := by decide +kernel
theorem dX10_edge_49 : decode cX10_edge 49 = .ok (.aload 6, 2) := by decide +kernel
theorem dX10_edge_51 : decode cX10_edge 51 = .ok (.iload_n 2, 1) := by decide +kernel
theorem dX10_edge_52 : decode cX10_edge 52 = .ok (.iload_n 3, 1) := by decide +kernel
theorem dX10_edge_53 : decode cX10_edge 53 = .ok (.iload 4, 2) := by decide +kernel
theorem dX10_edge_55 : decode cX10_edge 55 = .ok (.invokevirtual 187, 3) := by decide +kernel
theorem dX10_edge_58 : decode cX10_edge 58 = .ok (.ifCond .ne 6, 3) := by decide +kernel
theorem dX10_edge_61 : decode cX10_edge 61 = .ok (.iload 7, 2) := by decide +kernel
theorem dX10_edge_63 : decode cX10_edge 63 = .ok (.ireturn, 1) := by decide +kernel
theorem dX10_edge_64 : decode cX10_edge 64 = .ok (.iinc 7 1, 3) := by decide +kernel
theorem dX10_edge_67 : decode cX10_edge 67 = .ok (.goto (-39), 3) := by decide +kernel
theorem dX10_edge_70 : decode cX10_edge 70 = .ok (.iconst (-1), 1) := by decide +kernel
theorem dX10_edge_71 : decode cX10_edge 71 = .ok (.ireturn, 1) := by decide +kernel
theorem dX10_tell_0 : decode cX10_tell 0 = .ok (.aload_n 0, 1) := by decide +kernel
theorem dX10_tell_1 : decode cX10_tell 1 = .ok (.iload_n 1, 1) := by decide +kernel
theorem dX10_tell_2 : decode cX10_tell 2 = .ok (.iconst 1, 1) := by decide +kernel
theorem dX10_tell_3 : decode cX10_tell 3 = .ok (.iload_n 2, 1) := by decide +kernel
theorem dX10_tell_4 : decode cX10_tell 4 = .ok (.iload_n 3, 1) := by decide +kernel
theorem dX10_tell_5 : decode cX10_tell 5 = .ok (.invokevirtual 199, 3) := by decide +kernel
theorem dX10_tell_8 : decode cX10_tell 8 = .ok (.astore 5, 2) := by decide +kernel
theorem dX10_tell_10 : decode cX10_tell 10 = .ok (.aload 5, 2) := by decide +kernel
theorem dX10_tell_12 : decode cX10_tell 12 = .ok (.ifnull 18, 3) := by decide +kernel
theorem dX10_tell_15 : decode cX10_tell 15 = .ok (.iload 4, 2) := by decide +kernel
theorem dX10_tell_17 : decode cX10_tell 17 = .ok (.iconst 0, 1) := by decide +kernel
theorem dX10_tell_18 : decode cX10_tell 18 = .ok (.iload_n 3, 1) := by decide +kernel
theorem dX10_tell_19 : decode cX10_tell 19 = .ok (.bipush 20, 2) := by decide +kernel
theorem dX10_tell_21 : decode cX10_tell 21 = .ok (.invokestatic 231, 3) := by decide +kernel
theorem dX10_tell_24 : decode cX10_tell 24 = .ok (.invokestatic 90, 3) := by decide +kernel
theorem dX10_tell_27 : decode cX10_tell 27 = .ok (.ifCond .ne 5, 3) := by decide +kernel
theorem dX10_tell_30 : decode cX10_tell 30 = .ok (.iconst 0, 1) := by decide +kernel
theorem dX10_tell_31 : decode cX10_tell 31 = .ok (.ireturn, 1) := by decide +kernel
theorem dX10_tell_32 : decode cX10_tell 32 = .ok (.aload 5, 2) := by decide +kernel
theorem dX10_tell_34 : decode cX10_tell 34 = .ok (.getfield 237, 3) := by decide +kernel
theorem dX10_tell_37 : decode cX10_tell 37 = .ok (.iload_n 2, 1) := by decide +kernel
theorem dX10_tell_38 : decode cX10_tell 38 = .ok (.bipush 41, 2) := by decide +kernel
theorem dX10_tell_40 : decode cX10_tell 40 = .ok (.imul, 1) := by decide +kernel
theorem dX10_tell_41 : decode cX10_tell 41 = .ok (.iload_n 3, 1) := by decide +kernel
theorem dX10_tell_42 : decode cX10_tell 42 = .ok (.iadd, 1) := by decide +kernel
theorem dX10_tell_43 : decode cX10_tell 43 = .ok (.iload 4, 2) := by decide +kernel
theorem dX10_tell_45 : decode cX10_tell 45 = .ok (.iastore, 1) := by decide +kernel
theorem dX10_tell_46 : decode cX10_tell 46 = .ok (.iconst 1, 1) := by decide +kernel
theorem dX10_tell_47 : decode cX10_tell 47 = .ok (.ireturn, 1) := by decide +kernel
theorem dX10_judge_0 : decode cX10_judge 0 = .ok (.aload_n 0, 1) := by decide +kernel
theorem dX10_judge_1 : decode cX10_judge 1 = .ok (.iload_n 1, 1) := by decide +kernel
theorem dX10_judge_2 : decode cX10_judge 2 = .ok (.iconst 1, 1) := by decide +kernel
theorem dX10_judge_3 : decode cX10_judge 3 = .ok (.iload_n 2, 1) := by decide +kernel
theorem dX10_judge_4 : decode cX10_judge 4 = .ok (.iload_n 3, 1) := by decide +kernel
theorem dX10_judge_5 : decode cX10_judge 5 = .ok (.iconst 0, 1) := by decide +kernel
theorem dX10_judge_6 : decode cX10_judge 6 = .ok (.invokevirtual 183, 3) := by decide +kernel
theorem dX10_judge_9 : decode cX10_judge 9 = .ok (.astore 4, 2) := by decide +kernel
theorem dX10_judge_11 : decode cX10_judge 11 = .ok (.aload 4, 2) := by decide +kernel
theorem dX10_judge_13 : decode cX10_judge 13 = .ok (.ifnonnull 5, 3) := by decide +kernel
theorem dX10_judge_16 : decode cX10_judge 16 = .ok (.iconst (-1), 1) := by decide +kernel
theorem dX10_judge_17 : decode cX10_judge 17 = .ok (.ireturn, 1) := by decide +kernel
theorem dX10_judge_18 : decode cX10_judge 18 = .ok (.iconst 0, 1) := by decide +kernel
theorem dX10_judge_19 : decode cX10_judge 19 = .ok (.istore 5, 2) := by decide +kernel
theorem dX10_judge_21 : decode cX10_judge 21 = .ok (.iload 5, 2) := by decide +kernel
theorem dX10_judge_23 : decode cX10_judge 23 = .ok (.bipush 40, 2) := by decide +kernel
theorem dX10_judge_25 : decode cX10_judge 25 = .ok (.if_icmp .gt 40, 3) := by decide +kernel
theorem dX10_judge_28 : decode cX10_judge 28 = .ok (.aload 4, 2) := by decide +kernel
theorem dX10_judge_30 : decode cX10_judge 30 = .ok (.iload_n 2, 1) := by decide +kernel
theorem dX10_judge_31 : decode cX10_judge 31 = .ok (.iload_n 3, 1) := by decide +kernel
theorem dX10_judge_32 : decode cX10_judge 32 = .ok (.iload 5, 2) := by decide +kernel
theorem dX10_judge_34 : decode cX10_judge 34 = .ok (.invokevirtual 187, 3) := by decide +kernel
theorem dX10_judge_37 : decode cX10_judge 37 = .ok (.aload 4, 2) := by decide +kernel
theorem dX10_judge_39 : decode cX10_judge 39 = .ok (.getfield 240, 3) := by decide +kernel
theorem dX10_judge_42 : decode cX10_judge 42 = .ok (.getfield 237, 3) := by decide +kernel
theorem dX10_judge_45 : decode cX10_judge 45 = .ok (.iload_n 3, 1) := by decide +kernel
theorem dX10_judge_46 : decode cX10_judge 46 = .ok (.bipush 41, 2) := by decide +kernel
theorem dX10_judge_48 : decode cX10_judge 48 = .ok (.imul, 1) := by decide +kernel
theorem dX10_judge_49 : decode cX10_judge 49 = .ok (.iload 5, 2) := by decide +kernel
theorem dX10_judge_51 : decode cX10_judge 51 = .ok (.iadd, 1) := by decide +kernel
theorem dX10_judge_52 : decode cX10_judge 52 = .ok (.iaload, 1) := by decide +kernel
theorem dX10_judge_53 : decode cX10_judge 53 = .ok (.if_icmp .eq 6, 3) := by decide +kernel
theorem dX10_judge_56 : decode cX10_judge 56 = .ok (.iload 5, 2) := by decide +kernel
theorem dX10_judge_58 : decode cX10_judge 58 = .ok (.ireturn, 1) := by decide +kernel
theorem dX10_judge_59 : decode cX10_judge 59 = .ok (.iinc 5 1, 3) := by decide +kernel
theorem dX10_judge_62 : decode cX10_judge 62 = .ok (.goto (-41), 3) := by decide +kernel
theorem dX10_judge_65 : decode cX10_judge 65 = .ok (.iconst (-1), 1) := by decide +kernel
theorem dX10_judge_66 : decode cX10_judge 66 = .ok (.ireturn, 1) := by decide +kernel
theorem dX10_news_0 : decode cX10_news 0 = .ok (.aload_n 0, 1) := by decide +kernel
theorem dX10_news_1 : decode cX10_news 1 = .ok (.iload_n 1, 1) := by decide +kernel
theorem dX10_news_2 : decode cX10_news 2 = .ok (.iconst 2, 1) := by decide +kernel
theorem dX10_news_3 : decode cX10_news 3 = .ok (.iload_n 2, 1) := by decide +kernel
theorem dX10_news_4 : decode cX10_news 4 = .ok (.iload_n 3, 1) := by decide +kernel
theorem dX10_news_5 : decode cX10_news 5 = .ok (.iload 4, 2) := by decide +kernel
theorem dX10_news_7 : decode cX10_news 7 = .ok (.invokevirtual 183, 3) := by decide +kernel
theorem dX10_news_10 : decode cX10_news 10 = .ok (.astore 5, 2) := by decide +kernel
theorem dX10_news_12 : decode cX10_news 12 = .ok (.aload 5, 2) := by decide +kernel
theorem dX10_news_14 : decode cX10_news 14 = .ok (.ifnull 8, 3) := by decide +kernel
theorem dX10_news_17 : decode cX10_news 17 = .ok (.iload_n 2, 1) := by decide +kernel
theorem dX10_news_18 : decode cX10_news 18 = .ok (.iconst 2, 1) := by decide +kernel
theorem dX10_news_19 : decode cX10_news 19 = .ok (.if_icmp .ge 7, 3) := by decide +kernel
theorem dX10_news_22 : decode cX10_news 22 = .ok (.ldc2_w 203, 3) := by decide +kernel
theorem dX10_news_25 : decode cX10_news 25 = .ok (.lreturn, 1) := by decide +kernel
theorem dX10_news_26 : decode cX10_news 26 = .ok (.aload 5, 2) := by decide +kernel
theorem dX10_news_28 : decode cX10_news 28 = .ok (.iload_n 2, 1) := by decide +kernel
theorem dX10_news_29 : decode cX10_news 29 = .ok (.iload_n 3, 1) := by decide +kernel
theorem dX10_news_30 : decode cX10_news 30 = .ok (.iload 4, 2) := by decide +kernel
theorem dX10_news_32 : decode cX10_news 32 = .ok (.invokevirtual 244, 3) := by decide +kernel
theorem dX10_news_35 : decode cX10_news 35 = .ok (.aload 5, 2) := by decide +kernel
theorem dX10_news_37 : decode cX10_news 37 = .ok (.iload_n 2, 1) := by decide +kernel
theorem dX10_news_38 : decode cX10_news 38 = .ok (.iload_n 3, 1) := by decide +kernel
theorem dX10_news_39 : decode cX10_news 39 = .ok (.iload 4, 2) := by decide +kernel
theorem dX10_news_41 : decode cX10_news 41 = .ok (.invokevirtual 213, 3) := by decide +kernel
theorem dX10_news_44 : decode cX10_news 44 = .ok (.lsub, 1) := by decide +kernel
theorem dX10_news_45 : decode cX10_news 45 = .ok (.lreturn, 1) := by decide +kernel
theorem dX10_after_0 : decode cX10_after 0 = .ok (.aload_n 0, 1) := by decide +kernel
theorem dX10_after_1 : decode cX10_after 1 = .ok (.iload_n 1, 1) := by decide +kernel
theorem dX10_after_2 : decode cX10_after 2 = .ok (.iload_n 3, 1) := by decide +kernel
theorem dX10_after_3 : decode cX10_after 3 = .ok (.iload 4, 2) := by decide +kernel
theorem dX10_after_5 : decode cX10_after 5 = .ok (.iload 5, 2) := by decide +kernel
theorem dX10_after_7 : decode cX10_after 7 = .ok (.invokevirtual 199, 3) := by decide +kernel
theorem dX10_after_10 : decode cX10_after 10 = .ok (.ifnonnull 7, 3) := by decide +kernel
theorem dX10_after_13 : decode cX10_after 13 = .ok (.aconst_null, 1) := by decide +kernel
theorem dX10_after_14 : decode cX10_after 14 = .ok (.goto 10, 3) := by decide +kernel
theorem dX10_after_17 : decode cX10_after 17 = .ok (.aload_n 0, 1) := by decide +kernel
theorem dX10_after_18 : decode cX10_after 18 = .ok (.iload_n 1, 1) := by decide +kernel
theorem dX10_after_19 : decode cX10_after 19 = .ok (.iload_n 2, 1) := by decide +kernel
theorem dX10_after_20 : decode cX10_after 20 = .ok (.iload_n 3, 1) := by decide +kernel
theorem dX10_after_21 : decode cX10_after 21 = .ok (.invokevirtual 247, 3) := by decide +kernel
theorem dX10_after_24 : decode cX10_after 24 = .ok (.astore 9, 2) := by decide +kernel
theorem dX10_after_26 : decode cX10_after 26 = .ok (.aload 9, 2) := by decide +kernel
theorem dX10_after_28 : decode cX10_after 28 = .ok (.ifnull 24, 3) := by decide +kernel
theorem dX10_after_31 : decode cX10_after 31 = .ok (.iload 6, 2) := by decide +kernel
theorem dX10_after_33 : decode cX10_after 33 = .ok (.iconst 0, 1) := by decide +kernel
theorem dX10_after_34 : decode cX10_after 34 = .ok (.bipush 6, 2) := by decide +kernel
theorem dX10_after_36 : decode cX10_after 36 = .ok (.invokestatic 90, 3) := by decide +kernel
theorem dX10_after_39 : decode cX10_after 39 = .ok (.ifCond .eq 13, 3) := by decide +kernel
theorem dX10_after_42 : decode cX10_after 42 = .ok (.iload 7, 2) := by decide +kernel
theorem dX10_after_44 : decode cX10_after 44 = .ok (.iconst 0, 1) := by decide +kernel
theorem dX10_after_45 : decode cX10_after 45 = .ok (.iconst 4, 1) := by decide +kernel
theorem dX10_after_46 : decode cX10_after 46 = .ok (.invokestatic 90, 3) := by decide +kernel
theorem dX10_after_49 : decode cX10_after 49 = .ok (.ifCond .ne 7, 3) := by decide +kernel
theorem dX10_after_52 : decode cX10_after 52 = .ok (.ldc2_w 203, 3) := by decide +kernel
theorem dX10_after_55 : decode cX10_after 55 = .ok (.lreturn, 1) := by decide +kernel
theorem dX10_after_56 : decode cX10_after 56 = .ok (.iload 4, 2) := by decide +kernel
theorem dX10_after_58 : decode cX10_after 58 = .ok (.istore 10, 2) := by decide +kernel
theorem dX10_after_60 : decode cX10_after 60 = .ok (.aload_n 0, 1) := by decide +kernel
theorem dX10_after_61 : decode cX10_after 61 = .ok (.getfield 56, 3) := by decide +kernel
theorem dX10_after_64 : decode cX10_after 64 = .ok (.iload 5, 2) := by decide +kernel
theorem dX10_after_66 : decode cX10_after 66 = .ok (.invokevirtual 251, 3) := by decide +kernel
theorem dX10_after_69 : decode cX10_after 69 = .ok (.iconst 0, 1) := by decide +kernel
theorem dX10_after_70 : decode cX10_after 70 = .ok (.istore 11, 2) := by decide +kernel
theorem dX10_after_72 : decode cX10_after 72 = .ok (.iload 11, 2) := by decide +kernel
theorem dX10_after_74 : decode cX10_after 74 = .ok (.iload 6, 2) := by decide +kernel
theorem dX10_after_76 : decode cX10_after 76 = .ok (.if_icmp .ge 33, 3) := by decide +kernel
theorem dX10_after_79 : decode cX10_after 79 = .ok (.aload_n 0, 1) := by decide +kernel
theorem dX10_after_80 : decode cX10_after 80 = .ok (.getfield 56, 3) := by decide +kernel
theorem dX10_after_83 : decode cX10_after 83 = .ok (.aload 9, 2) := by decide +kernel
theorem dX10_after_85 : decode cX10_after 85 = .ok (.iload_n 3, 1) := by decide +kernel
theorem dX10_after_86 : decode cX10_after 86 = .ok (.iload 10, 2) := by decide +kernel
theorem dX10_after_88 : decode cX10_after 88 = .ok (.invokevirtual 254, 3) := by decide +kernel
theorem dX10_after_91 : decode cX10_after 91 = .ok (.aload 9, 2) := by decide +kernel
theorem dX10_after_93 : decode cX10_after 93 = .ok (.getfield 240, 3) := by decide +kernel
theorem dX10_after_96 : decode cX10_after 96 = .ok (.iload 10, 2) := by decide +kernel
theorem dX10_after_98 : decode cX10_after 98 = .ok (.invokevirtual 258, 3) := by decide +kernel
theorem dX10_after_101 : decode cX10_after 101 = .ok (.istore 10, 2) := by decide +kernel
theorem dX10_after_103 : decode cX10_after 103 = .ok (.iinc 11 1, 3) := by decide +kernel
theorem dX10_after_106 : decode cX10_after 106 = .ok (.goto (-34), 3) := by decide +kernel
theorem dX10_after_109 : decode cX10_after 109 = .ok (.aload_n 0, 1) := by decide +kernel
theorem dX10_after_110 : decode cX10_after 110 = .ok (.getfield 56, 3) := by decide +kernel
theorem dX10_after_113 : decode cX10_after 113 = .ok (.aload 9, 2) := by decide +kernel
theorem dX10_after_115 : decode cX10_after 115 = .ok (.iload_n 3, 1) := by decide +kernel
theorem dX10_after_116 : decode cX10_after 116 = .ok (.iload 10, 2) := by decide +kernel
theorem dX10_after_118 : decode cX10_after 118 = .ok (.iload 7, 2) := by decide +kernel
theorem dX10_after_120 : decode cX10_after 120 = .ok (.iload 8, 2) := by decide +kernel
theorem dX10_after_122 : decode cX10_after 122 = .ok (.invokevirtual 261, 3) := by decide +kernel
theorem dX10_after_125 : decode cX10_after 125 = .ok (.lreturn, 1) := by decide +kernel
theorem dX10_row_0 : decode cX10_row 0 = .ok (.iload_n 1, 1) := by decide +kernel
theorem dX10_row_1 : decode cX10_row 1 = .ok (.iconst 0, 1) := by decide +kernel
theorem dX10_row_2 : decode cX10_row 2 = .ok (.iconst 1, 1) := by decide +kernel
theorem dX10_row_3 : decode cX10_row 3 = .ok (.invokestatic 90, 3) := by decide +kernel
theorem dX10_row_6 : decode cX10_row 6 = .ok (.ifCond .eq 24, 3) := by decide +kernel
theorem dX10_row_9 : decode cX10_row 9 = .ok (.iload_n 2, 1) := by decide +kernel
theorem dX10_row_10 : decode cX10_row 10 = .ok (.iconst 0, 1) := by decide +kernel
theorem dX10_row_11 : decode cX10_row 11 = .ok (.bipush 20, 2) := by decide +kernel
theorem dX10_row_13 : decode cX10_row 13 = .ok (.invokestatic 90, 3) := by decide +kernel
theorem dX10_row_16 : decode cX10_row 16 = .ok (.ifCond .eq 14, 3) := by decide +kernel
theorem dX10_row_19 : decode cX10_row 19 = .ok (.aload_n 0, 1) := by decide +kernel
theorem dX10_row_20 : decode cX10_row 20 = .ok (.getfield 49, 3) := by decide +kernel
theorem dX10_row_23 : decode cX10_row 23 = .ok (.iload_n 1, 1) := by decide +kernel
theorem dX10_row_24 : decode cX10_row 24 = .ok (.iaload, 1) := by decide +kernel
theorem dX10_row_25 : decode cX10_row 25 = .ok (.bipush 40, 2) := by decide +kernel
theorem dX10_row_27 : decode cX10_row 27 = .ok (.if_icmp .lt 5, 3) := by decide +kernel
theorem dX10_row_30 : decode cX10_row 30 = .ok (.iconst (-1), 1) := by decide +kernel
theorem dX10_row_31 : decode cX10_row 31 = .ok (.ireturn, 1) := by decide +kernel
theorem dX10_row_32 : decode cX10_row 32 = .ok (.aload_n 0, 1) := by decide +kernel
theorem dX10_row_33 : decode cX10_row 33 = .ok (.getfield 46, 3) := by decide +kernel
theorem dX10_row_36 : decode cX10_row 36 = .ok (.iload_n 1, 1) := by decide +kernel
theorem dX10_row_37 : decode cX10_row 37 = .ok (.aaload, 1) := by decide +kernel
theorem dX10_row_38 : decode cX10_row 38 = .ok (.aload_n 0, 1) := by decide +kernel
theorem dX10_row_39 : decode cX10_row 39 = .ok (.getfield 49, 3) := by decide +kernel
theorem dX10_row_42 : decode cX10_row 42 = .ok (.iload_n 1, 1) := by decide +kernel
theorem dX10_row_43 : decode cX10_row 43 = .ok (.iaload, 1) := by decide +kernel
theorem dX10_row_44 : decode cX10_row 44 = .ok (.iload_n 2, 1) := by decide +kernel
theorem dX10_row_45 : decode cX10_row 45 = .ok (.iastore, 1) := by decide +kernel
theorem dX10_row_46 : decode cX10_row 46 = .ok (.aload_n 0, 1) := by decide +kernel
theorem dX10_row_47 : decode cX10_row 47 = .ok (.getfield 49, 3) := by decide +kernel
theorem dX10_row_50 : decode cX10_row 50 = .ok (.iload_n 1, 1) := by decide +kernel
theorem dX10_row_51 : decode cX10_row 51 = .ok (.dup2, 1) := by decide +kernel
theorem dX10_row_52 : decode cX10_row 52 = .ok (.iaload, 1) := by decide +kernel
theorem dX10_row_53 : decode cX10_row 53 = .ok (.iconst 1, 1) := by decide +kernel
theorem dX10_row_54 : decode cX10_row 54 = .ok (.iadd, 1) := by decide +kernel
theorem dX10_row_55 : decode cX10_row 55 = .ok (.iastore, 1) := by decide +kernel
theorem dX10_row_56 : decode cX10_row 56 = .ok (.aload_n 0, 1) := by decide +kernel
theorem dX10_row_57 : decode cX10_row 57 = .ok (.getfield 49, 3) := by decide +kernel
theorem dX10_row_60 : decode cX10_row 60 = .ok (.iload_n 1, 1) := by decide +kernel
theorem dX10_row_61 : decode cX10_row 61 = .ok (.iaload, 1) := by decide +kernel
theorem dX10_row_62 : decode cX10_row 62 = .ok (.ireturn, 1) := by decide +kernel
theorem dX10_clear_0 : decode cX10_clear 0 = .ok (.iload_n 1, 1) := by decide +kernel
theorem dX10_clear_1 : decode cX10_clear 1 = .ok (.iconst 0, 1) := by decide +kernel
theorem dX10_clear_2 : decode cX10_clear 2 = .ok (.iconst 1, 1) := by decide +kernel
theorem dX10_clear_3 : decode cX10_clear 3 = .ok (.invokestatic 90, 3) := by decide +kernel
theorem dX10_clear_6 : decode cX10_clear 6 = .ok (.ifCond .ne 5, 3) := by decide +kernel
theorem dX10_clear_9 : decode cX10_clear 9 = .ok (.iconst (-1), 1) := by decide +kernel
theorem dX10_clear_10 : decode cX10_clear 10 = .ok (.ireturn, 1) := by decide +kernel
theorem dX10_clear_11 : decode cX10_clear 11 = .ok (.aload_n 0, 1) := by decide +kernel
theorem dX10_clear_12 : decode cX10_clear 12 = .ok (.getfield 49, 3) := by decide +kernel
theorem dX10_clear_15 : decode cX10_clear 15 = .ok (.iload_n 1, 1) := by decide +kernel
theorem dX10_clear_16 : decode cX10_clear 16 = .ok (.iaload, 1) := by decide +kernel
theorem dX10_clear_17 : decode cX10_clear 17 = .ok (.istore_n 2, 1) := by decide +kernel
theorem dX10_clear_18 : decode cX10_clear 18 = .ok (.aload_n 0, 1) := by decide +kernel
theorem dX10_clear_19 : decode cX10_clear 19 = .ok (.getfield 49, 3) := by decide +kernel
theorem dX10_clear_22 : decode cX10_clear 22 = .ok (.iload_n 1, 1) := by decide +kernel
theorem dX10_clear_23 : decode cX10_clear 23 = .ok (.iconst 0, 1) := by decide +kernel
theorem dX10_clear_24 : decode cX10_clear 24 = .ok (.iastore, 1) := by decide +kernel
theorem dX10_clear_25 : decode cX10_clear 25 = .ok (.iload_n 2, 1) := by decide +kernel
theorem dX10_clear_26 : decode cX10_clear 26 = .ok (.ireturn, 1) := by decide +kernel
theorem dX10_granary_0 : decode cX10_granary 0 = .ok (.aload_n 0, 1) := by decide +kernel
theorem dX10_granary_1 : decode cX10_granary 1 = .ok (.iload_n 1, 1) := by decide +kernel
theorem dX10_granary_2 : decode cX10_granary 2 = .ok (.invokevirtual 115, 3) := by decide +kernel
theorem dX10_granary_5 : decode cX10_granary 5 = .ok (.astore 5, 2) := by decide +kernel
theorem dX10_granary_7 : decode cX10_granary 7 = .ok (.aload 5, 2) := by decide +kernel
theorem dX10_granary_9 : decode cX10_granary 9 = .ok (.ifnull 33, 3) := by decide +kernel
theorem dX10_granary_12 : decode cX10_granary 12 = .ok (.iload_n 3, 1) := by decide +kernel
theorem dX10_granary_13 : decode cX10_granary 13 = .ok (.iconst 0, 1) := by decide +kernel
theorem dX10_granary_14 : decode cX10_granary 14 = .ok (.bipush 99, 2) := by decide +kernel
theorem dX10_granary_16 : decode cX10_granary 16 = .ok (.invokestatic 90, 3) := by decide +kernel
theorem dX10_granary_19 : decode cX10_granary 19 = .ok (.ifCond .eq 23, 3) := by decide +kernel
theorem dX10_granary_22 : decode cX10_granary 22 = .ok (.iload_n 2, 1) := by decide +kernel
theorem dX10_granary_23 : decode cX10_granary 23 = .ok (.iconst 0, 1) := by decide +kernel
theorem dX10_granary_24 : decode cX10_granary 24 = .ok (.iload_n 3, 1) := by decide +kernel
theorem dX10_granary_25 : decode cX10_granary 25 = .ok (.invokestatic 90, 3) := by decide +kernel
theorem dX10_granary_28 : decode cX10_granary 28 = .ok (.ifCond .eq 14, 3) := by decide +kernel
theorem dX10_granary_31 : decode cX10_granary 31 = .ok (.iload 4, 2) := by decide +kernel
theorem dX10_granary_33 : decode cX10_granary 33 = .ok (.iconst 0, 1) := by decide +kernel
theorem dX10_granary_34 : decode cX10_granary 34 = .ok (.bipush 20, 2) := by decide +kernel
theorem dX10_granary_36 : decode cX10_granary 36 = .ok (.invokestatic 90, 3) := by decide +kernel
theorem dX10_granary_39 : decode cX10_granary 39 = .ok (.ifCond .ne 5, 3) := by decide +kernel
theorem dX10_granary_42 : decode cX10_granary 42 = .ok (.iconst 0, 1) := by decide +kernel
theorem dX10_granary_43 : decode cX10_granary 43 = .ok (.ireturn, 1) := by decide +kernel
theorem dX10_granary_44 : decode cX10_granary 44 = .ok (.aload 5, 2) := by decide +kernel
theorem dX10_granary_46 : decode cX10_granary 46 = .ok (.iload_n 2, 1) := by decide +kernel
theorem dX10_granary_47 : decode cX10_granary 47 = .ok (.putfield 265, 3) := by decide +kernel
theorem dX10_granary_50 : decode cX10_granary 50 = .ok (.aload 5, 2) := by decide +kernel
theorem dX10_granary_52 : decode cX10_granary 52 = .ok (.iload_n 3, 1) := by decide +kernel
theorem dX10_granary_53 : decode cX10_granary 53 = .ok (.putfield 268, 3) := by decide +kernel
theorem dX10_granary_56 : decode cX10_granary 56 = .ok (.aload 5, 2) := by decide +kernel
theorem dX10_granary_58 : decode cX10_granary 58 = .ok (.iload 4, 2) := by decide +kernel
theorem dX10_granary_60 : decode cX10_granary 60 = .ok (.putfield 271, 3) := by decide +kernel
theorem dX10_granary_63 : decode cX10_granary 63 = .ok (.iconst 1, 1) := by decide +kernel
theorem dX10_granary_64 : decode cX10_granary 64 = .ok (.ireturn, 1) := by decide +kernel
theorem dX10_run_0 : decode cX10_run 0 = .ok (.aload_n 0, 1) := by decide +kernel
theorem dX10_run_1 : decode cX10_run 1 = .ok (.iload_n 1, 1) := by decide +kernel
theorem dX10_run_2 : decode cX10_run 2 = .ok (.iload_n 2, 1) := by decide +kernel
theorem dX10_run_3 : decode cX10_run 3 = .ok (.iload_n 3, 1) := by decide +kernel
theorem dX10_run_4 : decode cX10_run 4 = .ok (.invokevirtual 247, 3) := by decide +kernel
theorem dX10_run_7 : decode cX10_run 7 = .ok (.astore 5, 2) := by decide +kernel
theorem dX10_run_9 : decode cX10_run 9 = .ok (.aload 5, 2) := by decide +kernel
theorem dX10_run_11 : decode cX10_run 11 = .ok (.ifnull 14, 3) := by decide +kernel
theorem dX10_run_14 : decode cX10_run 14 = .ok (.iload 4, 2) := by decide +kernel
theorem dX10_run_16 : decode cX10_run 16 = .ok (.iconst 0, 1) := by decide +kernel
theorem dX10_run_17 : decode cX10_run 17 = .ok (.bipush 20, 2) := by decide +kernel
theorem dX10_run_19 : decode cX10_run 19 = .ok (.invokestatic 90, 3) := by decide +kernel
theorem dX10_run_22 : decode cX10_run 22 = .ok (.ifCond .ne 5, 3) := by decide +kernel
theorem dX10_run_25 : decode cX10_run 25 = .ok (.iconst (-1), 1) := by decide +kernel
theorem dX10_run_26 : decode cX10_run 26 = .ok (.ireturn, 1) := by decide +kernel
theorem dX10_run_27 : decode cX10_run 27 = .ok (.aload_n 0, 1) := by decide +kernel
theorem dX10_run_28 : decode cX10_run 28 = .ok (.aload_n 0, 1) := by decide +kernel
theorem dX10_run_29 : decode cX10_run 29 = .ok (.getfield 72, 3) := by decide +kernel
theorem dX10_run_32 : decode cX10_run 32 = .ok (.aload 5, 2) := by decide +kernel
theorem dX10_run_34 : decode cX10_run 34 = .ok (.iload_n 3, 1) := by decide +kernel
theorem dX10_run_35 : decode cX10_run 35 = .ok (.iload 4, 2) := by decide +kernel
theorem dX10_run_37 : decode cX10_run 37 = .ok (.invokevirtual 274, 3) := by decide +kernel
theorem dX10_run_40 : decode cX10_run 40 = .ok (.aload_n 0, 1) := by decide +kernel
theorem dX10_run_41 : decode cX10_run 41 = .ok (.getfield 72, 3) := by decide +kernel
theorem dX10_run_44 : decode cX10_run 44 = .ok (.getfield 278, 3) := by decide +kernel
theorem dX10_run_47 : decode cX10_run 47 = .ok (.ireturn, 1) := by decide +kernel
theorem dX10_towns_0 : decode cX10_towns 0 = .ok (.aload_n 0, 1) := by decide +kernel
theorem dX10_towns_1 : decode cX10_towns 1 = .ok (.iload_n 1, 1) := by decide +kernel
theorem dX10_towns_2 : decode cX10_towns 2 = .ok (.iload_n 3, 1) := by decide +kernel
theorem dX10_towns_3 : decode cX10_towns 3 = .ok (.iload 4, 2) := by decide +kernel
theorem dX10_towns_5 : decode cX10_towns 5 = .ok (.invokevirtual 247, 3) := by decide +kernel
theorem dX10_towns_8 : decode cX10_towns 8 = .ok (.astore 8, 2) := by decide +kernel
theorem dX10_towns_10 : decode cX10_towns 10 = .ok (.aload_n 0, 1) := by decide +kernel
theorem dX10_towns_11 : decode cX10_towns 11 = .ok (.iload_n 2, 1) := by decide +kernel
theorem dX10_towns_12 : decode cX10_towns 12 = .ok (.iload_n 3, 1) := by decide +kernel
theorem dX10_towns_13 : decode cX10_towns 13 = .ok (.iload 4, 2) := by decide +kernel
theorem dX10_towns_15 : decode cX10_towns 15 = .ok (.invokevirtual 247, 3) := by decide +kernel
theorem dX10_towns_18 : decode cX10_towns 18 = .ok (.astore 9, 2) := by decide +kernel
theorem dX10_towns_20 : decode cX10_towns 20 = .ok (.aload 8, 2) := by decide +kernel
theorem dX10_towns_22 : decode cX10_towns 22 = .ok (.ifnull 18, 3) := by decide +kernel
theorem dX10_towns_25 : decode cX10_towns 25 = .ok (.aload 9, 2) := by decide +kernel
theorem dX10_towns_27 : decode cX10_towns 27 = .ok (.ifnull 13, 3) := by decide +kernel
theorem dX10_towns_30 : decode cX10_towns 30 = .ok (.iload_n 1, 1) := by decide +kernel
theorem dX10_towns_31 : decode cX10_towns 31 = .ok (.iload_n 2, 1) := by decide +kernel
theorem dX10_towns_32 : decode cX10_towns 32 = .ok (.if_icmp .eq 8, 3) := by decide +kernel
theorem dX10_towns_35 : decode cX10_towns 35 = .ok (.iload_n 3, 1) := by decide +kernel
theorem dX10_towns_36 : decode cX10_towns 36 = .ok (.iconst 3, 1) := by decide +kernel
theorem dX10_towns_37 : decode cX10_towns 37 = .ok (.if_icmp .ne 5, 3) := by decide +kernel
theorem dX10_towns_40 : decode cX10_towns 40 = .ok (.iconst (-1), 1) := by decide +kernel
theorem dX10_towns_41 : decode cX10_towns 41 = .ok (.ireturn, 1) := by decide +kernel
theorem dX10_towns_42 : decode cX10_towns 42 = .ok (.aload 8, 2) := by decide +kernel
theorem dX10_towns_44 : decode cX10_towns 44 = .ok (.getfield 240, 3) := by decide +kernel
theorem dX10_towns_47 : decode cX10_towns 47 = .ok (.getfield 119, 3) := by decide +kernel
theorem dX10_towns_50 : decode cX10_towns 50 = .ok (.aload 9, 2) := by decide +kernel
theorem dX10_towns_52 : decode cX10_towns 52 = .ok (.getfield 240, 3) := by decide +kernel
theorem dX10_towns_55 : decode cX10_towns 55 = .ok (.getfield 119, 3) := by decide +kernel
theorem dX10_towns_58 : decode cX10_towns 58 = .ok (.if_icmp .ne 14, 3) := by decide +kernel
theorem dX10_towns_61 : decode cX10_towns 61 = .ok (.iload 7, 2) := by decide +kernel
theorem dX10_towns_63 : decode cX10_towns 63 = .ok (.iconst 0, 1) := by decide +kernel
theorem dX10_towns_64 : decode cX10_towns 64 = .ok (.bipush 99, 2) := by decide +kernel
theorem dX10_towns_66 : decode cX10_towns 66 = .ok (.invokestatic 90, 3) := by decide +kernel
theorem dX10_towns_69 : decode cX10_towns 69 = .ok (.ifCond .ne 5, 3) := by decide +kernel
theorem dX10_towns_72 : decode cX10_towns 72 = .ok (.iconst (-1), 1) := by decide +kernel
theorem dX10_towns_73 : decode cX10_towns 73 = .ok (.ireturn, 1) := by decide +kernel
theorem dX10_towns_74 : decode cX10_towns 74 = .ok (.iload 5, 2) := by decide +kernel
theorem dX10_towns_76 : decode cX10_towns 76 = .ok (.iconst 0, 1) := by decide +kernel
theorem dX10_towns_77 : decode cX10_towns 77 = .ok (.bipush 20, 2) := by decide +kernel
theorem dX10_towns_79 : decode cX10_towns 79 = .ok (.invokestatic 90, 3) := by decide +kernel
theorem dX10_towns_82 : decode cX10_towns 82 = .ok (.ifCond .eq 14, 3) := by decide +kernel
theorem dX10_towns_85 : decode cX10_towns 85 = .ok (.iload 6, 2) := by decide +kernel
theorem dX10_towns_87 : decode cX10_towns 87 = .ok (.iconst 0, 1) := by decide +kernel
theorem dX10_towns_88 : decode cX10_towns 88 = .ok (.bipush 20, 2) := by decide +kernel
theorem dX10_towns_90 : decode cX10_towns 90 = .ok (.invokestatic 90, 3) := by decide +kernel
theorem dX10_towns_93 : decode cX10_towns 93 = .ok (.ifCond .ne 5, 3) := by decide +kernel
theorem dX10_towns_96 : decode cX10_towns 96 = .ok (.iconst (-1), 1) := by decide +kernel
theorem dX10_towns_97 : decode cX10_towns 97 = .ok (.ireturn, 1) := by decide +kernel
theorem dX10_towns_98 : decode cX10_towns 98 = .ok (.aload_n 0, 1) := by decide +kernel
theorem dX10_towns_99 : decode cX10_towns 99 = .ok (.getfield 62, 3) := by decide +kernel
theorem dX10_towns_102 : decode cX10_towns 102 = .ok (.iconst 0, 1) := by decide +kernel
theorem dX10_towns_103 : decode cX10_towns 103 = .ok (.aaload, 1) := by decide +kernel
theorem dX10_towns_104 : decode cX10_towns 104 = .ok (.aload 8, 2) := by decide +kernel
theorem dX10_towns_106 : decode cX10_towns 106 = .ok (.aload_n 0, 1) := by decide +kernel
theorem dX10_towns_107 : decode cX10_towns 107 = .ok (.getfield 46, 3) := by decide +kernel
theorem dX10_towns_110 : decode cX10_towns 110 = .ok (.iconst 0, 1) := by decide +kernel
theorem dX10_towns_111 : decode cX10_towns 111 = .ok (.aaload, 1) := by decide +kernel
theorem dX10_towns_112 : decode cX10_towns 112 = .ok (.iload 5, 2) := by decide +kernel
theorem dX10_towns_114 : decode cX10_towns 114 = .ok (.invokevirtual 279, 3) := by decide +kernel
theorem dX10_towns_117 : decode cX10_towns 117 = .ok (.aload_n 0, 1) := by decide +kernel
theorem dX10_towns_118 : decode cX10_towns 118 = .ok (.getfield 62, 3) := by decide +kernel
theorem dX10_towns_121 : decode cX10_towns 121 = .ok (.iconst 1, 1) := by decide +kernel
theorem dX10_towns_122 : decode cX10_towns 122 = .ok (.aaload, 1) := by decide +kernel
theorem dX10_towns_123 : decode cX10_towns 123 = .ok (.aload 9, 2) := by decide +kernel
theorem dX10_towns_125 : decode cX10_towns 125 = .ok (.aload_n 0, 1) := by decide +kernel
theorem dX10_towns_126 : decode cX10_towns 126 = .ok (.getfield 46, 3) := by decide +kernel
theorem dX10_towns_129 : decode cX10_towns 129 = .ok (.iconst 1, 1) := by decide +kernel
theorem dX10_towns_130 : decode cX10_towns 130 = .ok (.aaload, 1) := by decide +kernel
theorem dX10_towns_131 : decode cX10_towns 131 = .ok (.iload 6, 2) := by decide +kernel
theorem dX10_towns_133 : decode cX10_towns 133 = .ok (.invokevirtual 279, 3) := by decide +kernel
theorem dX10_towns_136 : decode cX10_towns 136 = .ok (.aload_n 0, 1) := by decide +kernel
theorem dX10_towns_137 : decode cX10_towns 137 = .ok (.getfield 72, 3) := by decide +kernel
theorem dX10_towns_140 : decode cX10_towns 140 = .ok (.aload_n 0, 1) := by decide +kernel
theorem dX10_towns_141 : decode cX10_towns 141 = .ok (.getfield 62, 3) := by decide +kernel
theorem dX10_towns_144 : decode cX10_towns 144 = .ok (.iconst 0, 1) := by decide +kernel
theorem dX10_towns_145 : decode cX10_towns 145 = .ok (.aaload, 1) := by decide +kernel
theorem dX10_towns_146 : decode cX10_towns 146 = .ok (.aload_n 0, 1) := by decide +kernel
theorem dX10_towns_147 : decode cX10_towns 147 = .ok (.getfield 62, 3) := by decide +kernel
theorem dX10_towns_150 : decode cX10_towns 150 = .ok (.iconst 1, 1) := by decide +kernel
theorem dX10_towns_151 : decode cX10_towns 151 = .ok (.aaload, 1) := by decide +kernel
theorem dX10_towns_152 : decode cX10_towns 152 = .ok (.iload 4, 2) := by decide +kernel
theorem dX10_towns_154 : decode cX10_towns 154 = .ok (.aload_n 0, 1) := by decide +kernel
theorem dX10_towns_155 : decode cX10_towns 155 = .ok (.getfield 49, 3) := by decide +kernel
theorem dX10_towns_158 : decode cX10_towns 158 = .ok (.iconst 0, 1) := by decide +kernel
theorem dX10_towns_159 : decode cX10_towns 159 = .ok (.iaload, 1) := by decide +kernel
theorem dX10_towns_160 : decode cX10_towns 160 = .ok (.aload_n 0, 1) := by decide +kernel
theorem dX10_towns_161 : decode cX10_towns 161 = .ok (.getfield 49, 3) := by decide +kernel
theorem dX10_towns_164 : decode cX10_towns 164 = .ok (.iconst 1, 1) := by decide +kernel
theorem dX10_towns_165 : decode cX10_towns 165 = .ok (.iaload, 1) := by decide +kernel
theorem dX10_towns_166 : decode cX10_towns 166 = .ok (.invokestatic 231, 3) := by decide +kernel
theorem dX10_towns_169 : decode cX10_towns 169 = .ok (.iload 7, 2) := by decide +kernel
theorem dX10_towns_171 : decode cX10_towns 171 = .ok (.invokevirtual 282, 3) := by decide +kernel
theorem dX10_towns_174 : decode cX10_towns 174 = .ok (.aload_n 0, 1) := by decide +kernel
theorem dX10_towns_175 : decode cX10_towns 175 = .ok (.getfield 72, 3) := by decide +kernel
theorem dX10_towns_178 : decode cX10_towns 178 = .ok (.getfield 278, 3) := by decide +kernel
theorem dX10_towns_181 : decode cX10_towns 181 = .ok (.ireturn, 1) := by decide +kernel
theorem dX10_ran_0 : decode cX10_ran 0 = .ok (.iload_n 1, 1) := by decide +kernel
theorem dX10_ran_1 : decode cX10_ran 1 = .ok (.iconst 0, 1) := by decide +kernel
theorem dX10_ran_2 : decode cX10_ran 2 = .ok (.aload_n 0, 1) := by decide +kernel
theorem dX10_ran_3 : decode cX10_ran 3 = .ok (.getfield 72, 3) := by decide +kernel
theorem dX10_ran_6 : decode cX10_ran 6 = .ok (.getfield 286, 3) := by decide +kernel
theorem dX10_ran_9 : decode cX10_ran 9 = .ok (.iconst 1, 1) := by decide +kernel
theorem dX10_ran_10 : decode cX10_ran 10 = .ok (.isub, 1) := by decide +kernel
theorem dX10_ran_11 : decode cX10_ran 11 = .ok (.invokestatic 90, 3) := by decide +kernel
theorem dX10_ran_14 : decode cX10_ran 14 = .ok (.ifCond .eq 20, 3) := by decide +kernel
theorem dX10_ran_17 : decode cX10_ran 17 = .ok (.iload_n 2, 1) := by decide +kernel
theorem dX10_ran_18 : decode cX10_ran 18 = .ok (.iconst 0, 1) := by decide +kernel
theorem dX10_ran_19 : decode cX10_ran 19 = .ok (.aload_n 0, 1) := by decide +kernel
theorem dX10_ran_20 : decode cX10_ran 20 = .ok (.getfield 72, 3) := by decide +kernel
theorem dX10_ran_23 : decode cX10_ran 23 = .ok (.getfield 278, 3) := by decide +kernel
theorem dX10_ran_26 : decode cX10_ran 26 = .ok (.iconst 1, 1) := by decide +kernel
theorem dX10_ran_27 : decode cX10_ran 27 = .ok (.isub, 1) := by decide +kernel
theorem dX10_ran_28 : decode cX10_ran 28 = .ok (.invokestatic 90, 3) := by decide +kernel
theorem dX10_ran_31 : decode cX10_ran 31 = .ok (.ifCond .ne 14, 3) := by decide +kernel
theorem dX10_ran_34 : decode cX10_ran 34 = .ok (.new 146, 3) := by decide +kernel
theorem dX10_ran_37 : decode cX10_ran 37 = .ok (.dup, 1) := by decide +kernel
theorem dX10_ran_38 : decode cX10_ran 38 = .ok (.ldc_w 289, 3) := by decide +kernel
theorem dX10_ran_41 : decode cX10_ran 41 = .ok (.invokespecial 150, 3) := by decide +kernel
theorem dX10_ran_44 : decode cX10_ran 44 = .ok (.athrow, 1) := by decide +kernel
theorem dX10_ran_45 : decode cX10_ran 45 = .ok (.iload_n 3, 1) := by decide +kernel
theorem dX10_ran_46 : decode cX10_ran 46 = .ok (.iconst 0, 1) := by decide +kernel
theorem dX10_ran_47 : decode cX10_ran 47 = .ok (.bipush 6, 2) := by decide +kernel
theorem dX10_ran_49 : decode cX10_ran 49 = .ok (.invokestatic 90, 3) := by decide +kernel
theorem dX10_ran_52 : decode cX10_ran 52 = .ok (.ifCond .ne 14, 3) := by decide +kernel
theorem dX10_ran_55 : decode cX10_ran 55 = .ok (.new 146, 3) := by decide +kernel
theorem dX10_ran_58 : decode cX10_ran 58 = .ok (.dup, 1) := by decide +kernel
theorem dX10_ran_59 : decode cX10_ran 59 = .ok (.ldc_w 291, 3) := by decide +kernel
theorem dX10_ran_62 : decode cX10_ran 62 = .ok (.invokespecial 150, 3) := by decide +kernel
theorem dX10_ran_65 : decode cX10_ran 65 = .ok (.athrow, 1) := by decide +kernel
theorem dX10_ran_66 : decode cX10_ran 66 = .ok (.aload_n 0, 1) := by decide +kernel
theorem dX10_ran_67 : decode cX10_ran 67 = .ok (.getfield 72, 3) := by decide +kernel
theorem dX10_ran_70 : decode cX10_ran 70 = .ok (.getfield 293, 3) := by decide +kernel
theorem dX10_ran_73 : decode cX10_ran 73 = .ok (.iload_n 1, 1) := by decide +kernel
theorem dX10_ran_74 : decode cX10_ran 74 = .ok (.iload_n 2, 1) := by decide +kernel
theorem dX10_ran_75 : decode cX10_ran 75 = .ok (.invokestatic 296, 3) := by decide +kernel
theorem dX10_ran_78 : decode cX10_ran 78 = .ok (.iload_n 3, 1) := by decide +kernel
theorem dX10_ran_79 : decode cX10_ran 79 = .ok (.iadd, 1) := by decide +kernel
theorem dX10_ran_80 : decode cX10_ran 80 = .ok (.iaload, 1) := by decide +kernel
theorem dX10_ran_81 : decode cX10_ran 81 = .ok (.ireturn, 1) := by decide +kernel
theorem dX10_spent_0 : decode cX10_spent 0 = .ok (.aload_n 0, 1) := by decide +kernel
theorem dX10_spent_1 : decode cX10_spent 1 = .ok (.getfield 72, 3) := by decide +kernel
theorem dX10_spent_4 : decode cX10_spent 4 = .ok (.getfield 299, 3) := by decide +kernel
theorem dX10_spent_7 : decode cX10_spent 7 = .ok (.ireturn, 1) := by decide +kernel
theorem dX10_blame_0 : decode cX10_blame 0 = .ok (.aload_n 0, 1) := by decide +kernel
theorem dX10_blame_1 : decode cX10_blame 1 = .ok (.iload_n 1, 1) := by decide +kernel
theorem dX10_blame_2 : decode cX10_blame 2 = .ok (.iload_n 2, 1) := by decide +kernel
theorem dX10_blame_3 : decode cX10_blame 3 = .ok (.iload_n 3, 1) := by decide +kernel
theorem dX10_blame_4 : decode cX10_blame 4 = .ok (.invokevirtual 247, 3) := by decide +kernel
theorem dX10_blame_7 : decode cX10_blame 7 = .ok (.astore 5, 2) := by decide +kernel
theorem dX10_blame_9 : decode cX10_blame 9 = .ok (.aload 5, 2) := by decide +kernel
theorem dX10_blame_11 : decode cX10_blame 11 = .ok (.ifnull 14, 3) := by decide +kernel
theorem dX10_blame_14 : decode cX10_blame 14 = .ok (.iload 4, 2) := by decide +kernel
theorem dX10_blame_16 : decode cX10_blame 16 = .ok (.iconst 0, 1) := by decide +kernel
theorem dX10_blame_17 : decode cX10_blame 17 = .ok (.bipush 20, 2) := by decide +kernel
theorem dX10_blame_19 : decode cX10_blame 19 = .ok (.invokestatic 90, 3) := by decide +kernel
theorem dX10_blame_22 : decode cX10_blame 22 = .ok (.ifCond .ne 7, 3) := by decide +kernel
theorem dX10_blame_25 : decode cX10_blame 25 = .ok (.ldc_w 302, 3) := by decide +kernel
theorem dX10_blame_28 : decode cX10_blame 28 = .ok (.ireturn, 1) := by decide +kernel
theorem dX10_blame_29 : decode cX10_blame 29 = .ok (.aload_n 0, 1) := by decide +kernel
theorem dX10_blame_30 : decode cX10_blame 30 = .ok (.aload_n 0, 1) := by decide +kernel
theorem dX10_blame_31 : decode cX10_blame 31 = .ok (.getfield 76, 3) := by decide +kernel
theorem dX10_blame_34 : decode cX10_blame 34 = .ok (.aload 5, 2) := by decide +kernel
theorem dX10_blame_36 : decode cX10_blame 36 = .ok (.iload_n 3, 1) := by decide +kernel
theorem dX10_blame_37 : decode cX10_blame 37 = .ok (.iload 4, 2) := by decide +kernel
theorem dX10_blame_39 : decode cX10_blame 39 = .ok (.invokevirtual 274, 3) := by decide +kernel
theorem dX10_blame_42 : decode cX10_blame 42 = .ok (.aload_n 0, 1) := by decide +kernel
theorem dX10_blame_43 : decode cX10_blame 43 = .ok (.getfield 76, 3) := by decide +kernel
theorem dX10_blame_46 : decode cX10_blame 46 = .ok (.invokevirtual 303, 3) := by decide +kernel
theorem dX10_blame_49 : decode cX10_blame 49 = .ok (.istore 6, 2) := by decide +kernel
theorem dX10_blame_51 : decode cX10_blame 51 = .ok (.aload_n 0, 1) := by decide +kernel
theorem dX10_blame_52 : decode cX10_blame 52 = .ok (.aload_n 0, 1) := by decide +kernel
theorem dX10_blame_53 : decode cX10_blame 53 = .ok (.getfield 76, 3) := by decide +kernel
theorem dX10_blame_56 : decode cX10_blame 56 = .ok (.aload 5, 2) := by decide +kernel
theorem dX10_blame_58 : decode cX10_blame 58 = .ok (.getfield 240, 3) := by decide +kernel
theorem dX10_blame_61 : decode cX10_blame 61 = .ok (.iconst 0, 1) := by decide +kernel
theorem dX10_blame_62 : decode cX10_blame 62 = .ok (.invokevirtual 306, 3) := by decide +kernel
theorem dX10_blame_65 : decode cX10_blame 65 = .ok (.iload_n 3, 1) := by decide +kernel
theorem dX10_blame_66 : decode cX10_blame 66 = .ok (.iload 4, 2) := by decide +kernel
theorem dX10_blame_68 : decode cX10_blame 68 = .ok (.invokevirtual 274, 3) := by decide +kernel
theorem dX10_blame_71 : decode cX10_blame 71 = .ok (.iload 6, 2) := by decide +kernel
theorem dX10_blame_73 : decode cX10_blame 73 = .ok (.aload_n 0, 1) := by decide +kernel
theorem dX10_blame_74 : decode cX10_blame 74 = .ok (.getfield 76, 3) := by decide +kernel
theorem dX10_blame_77 : decode cX10_blame 77 = .ok (.invokevirtual 303, 3) := by decide +kernel
theorem dX10_blame_80 : decode cX10_blame 80 = .ok (.isub, 1) := by decide +kernel
theorem dX10_blame_81 : decode cX10_blame 81 = .ok (.ireturn, 1) := by decide +kernel
theorem dX10_count_0 : decode cX10_count 0 = .ok (.iload_n 1, 1) := by decide +kernel
theorem dX10_count_1 : decode cX10_count 1 = .ok (.tableswitch 67 0 4 #[35, 40, 45, 52, 59], 35) := by decide +kernel
theorem dX10_count_36 : decode cX10_count 36 = .ok (.aload_n 0, 1) := by decide +kernel
theorem dX10_count_37 : decode cX10_count 37 = .ok (.getfield 99, 3) := by decide +kernel
theorem dX10_count_40 : decode cX10_count 40 = .ok (.ireturn, 1) := by decide +kernel
theorem dX10_count_41 : decode cX10_count 41 = .ok (.aload_n 0, 1) := by decide +kernel
theorem dX10_count_42 : decode cX10_count 42 = .ok (.getfield 105, 3) := by decide +kernel
theorem dX10_count_45 : decode cX10_count 45 = .ok (.ireturn, 1) := by decide +kernel
theorem dX10_count_46 : decode cX10_count 46 = .ok (.aload_n 0, 1) := by decide +kernel
theorem dX10_count_47 : decode cX10_count 47 = .ok (.getfield 49, 3) := by decide +kernel
theorem dX10_count_50 : decode cX10_count 50 = .ok (.iconst 0, 1) := by decide +kernel
theorem dX10_count_51 : decode cX10_count 51 = .ok (.iaload, 1) := by decide +kernel
theorem dX10_count_52 : decode cX10_count 52 = .ok (.ireturn, 1) := by decide +kernel
theorem dX10_count_53 : decode cX10_count 53 = .ok (.aload_n 0, 1) := by decide +kernel
theorem dX10_count_54 : decode cX10_count 54 = .ok (.getfield 49, 3) := by decide +kernel
theorem dX10_count_57 : decode cX10_count 57 = .ok (.iconst 1, 1) := by decide +kernel
theorem dX10_count_58 : decode cX10_count 58 = .ok (.iaload, 1) := by decide +kernel
theorem dX10_count_59 : decode cX10_count 59 = .ok (.ireturn, 1) := by decide +kernel
theorem dX10_count_60 : decode cX10_count 60 = .ok (.aload_n 0, 1) := by decide +kernel
theorem dX10_count_61 : decode cX10_count 61 = .ok (.getfield 12, 3) := by decide +kernel
theorem dX10_count_64 : decode cX10_count 64 = .ok (.getfield 83, 3) := by decide +kernel
theorem dX10_count_67 : decode cX10_count 67 = .ok (.ireturn, 1) := by decide +kernel
theorem dX10_count_68 : decode cX10_count 68 = .ok (.iconst (-1), 1) := by decide +kernel
theorem dX10_count_69 : decode cX10_count 69 = .ok (.ireturn, 1) := by decide +kernel
theorem dX10_goAlone_0 : decode cX10_goAlone 0 = .ok (.aload_n 0, 1) := by decide +kernel
theorem dX10_goAlone_1 : decode cX10_goAlone 1 = .ok (.getfield 62, 3) := by decide +kernel
theorem dX10_goAlone_4 : decode cX10_goAlone 4 = .ok (.iconst 0, 1) := by decide +kernel
theorem dX10_goAlone_5 : decode cX10_goAlone 5 = .ok (.aaload, 1) := by decide +kernel
theorem dX10_goAlone_6 : decode cX10_goAlone 6 = .ok (.aload_n 2, 1) := by decide +kernel
theorem dX10_goAlone_7 : decode cX10_goAlone 7 = .ok (.aload_n 0, 1) := by decide +kernel
theorem dX10_goAlone_8 : decode cX10_goAlone 8 = .ok (.getfield 46, 3) := by decide +kernel
theorem dX10_goAlone_11 : decode cX10_goAlone 11 = .ok (.iconst 0, 1) := by decide +kernel
theorem dX10_goAlone_12 : decode cX10_goAlone 12 = .ok (.aaload, 1) := by decide +kernel
theorem dX10_goAlone_13 : decode cX10_goAlone 13 = .ok (.iload 4, 2) := by decide +kernel
theorem dX10_goAlone_15 : decode cX10_goAlone 15 = .ok (.invokevirtual 279, 3) := by decide +kernel
theorem dX10_goAlone_18 : decode cX10_goAlone 18 = .ok (.aload_n 1, 1) := by decide +kernel
theorem dX10_goAlone_19 : decode cX10_goAlone 19 = .ok (.aload_n 0, 1) := by decide +kernel
theorem dX10_goAlone_20 : decode cX10_goAlone 20 = .ok (.getfield 62, 3) := by decide +kernel
theorem dX10_goAlone_23 : decode cX10_goAlone 23 = .ok (.iconst 0, 1) := by decide +kernel
theorem dX10_goAlone_24 : decode cX10_goAlone 24 = .ok (.aaload, 1) := by decide +kernel
theorem dX10_goAlone_25 : decode cX10_goAlone 25 = .ok (.iload_n 3, 1) := by decide +kernel
theorem dX10_goAlone_26 : decode cX10_goAlone 26 = .ok (.aload_n 0, 1) := by decide +kernel
theorem dX10_goAlone_27 : decode cX10_goAlone 27 = .ok (.getfield 49, 3) := by decide +kernel
theorem dX10_goAlone_30 : decode cX10_goAlone 30 = .ok (.iconst 0, 1) := by decide +kernel
theorem dX10_goAlone_31 : decode cX10_goAlone 31 = .ok (.iaload, 1) := by decide +kernel
theorem dX10_goAlone_32 : decode cX10_goAlone 32 = .ok (.invokevirtual 310, 3) := by decide +kernel
theorem dX10_goAlone_35 : decode cX10_goAlone 35 = .ok (.return_, 1) := by decide +kernel
theorem dX10_landAt_0 : decode cX10_landAt 0 = .ok (.iload_n 1, 1) := by decide +kernel
theorem dX10_landAt_1 : decode cX10_landAt 1 = .ok (.iconst 0, 1) := by decide +kernel
theorem dX10_landAt_2 : decode cX10_landAt 2 = .ok (.aload_n 0, 1) := by decide +kernel
theorem dX10_landAt_3 : decode cX10_landAt 3 = .ok (.getfield 99, 3) := by decide +kernel
theorem dX10_landAt_6 : decode cX10_landAt 6 = .ok (.iconst 1, 1) := by decide +kernel
theorem dX10_landAt_7 : decode cX10_landAt 7 = .ok (.isub, 1) := by decide +kernel
theorem dX10_landAt_8 : decode cX10_landAt 8 = .ok (.invokestatic 90, 3) := by decide +kernel
theorem dX10_landAt_11 : decode cX10_landAt 11 = .ok (.ifCond .eq 12, 3) := by decide +kernel
theorem dX10_landAt_14 : decode cX10_landAt 14 = .ok (.aload_n 0, 1) := by decide +kernel
theorem dX10_landAt_15 : decode cX10_landAt 15 = .ok (.getfield 34, 3) := by decide +kernel
theorem dX10_landAt_18 : decode cX10_landAt 18 = .ok (.iload_n 1, 1) := by decide +kernel
theorem dX10_landAt_19 : decode cX10_landAt 19 = .ok (.aaload, 1) := by decide +kernel
theorem dX10_landAt_20 : decode cX10_landAt 20 = .ok (.goto 4, 3) := by decide +kernel
theorem dX10_landAt_23 : decode cX10_landAt 23 = .ok (.aconst_null, 1) := by decide +kernel
theorem dX10_landAt_24 : decode cX10_landAt 24 = .ok (.areturn, 1) := by decide +kernel
theorem dX10_landFor_0 : decode cX10_landFor 0 = .ok (.aload_n 0, 1) := by decide +kernel
theorem dX10_landFor_1 : decode cX10_landFor 1 = .ok (.iload_n 1, 1) := by decide +kernel
theorem dX10_landFor_2 : decode cX10_landFor 2 = .ok (.invokevirtual 115, 3) := by decide +kernel
theorem dX10_landFor_5 : decode cX10_landFor 5 = .ok (.astore 5, 2) := by decide +kernel
theorem dX10_landFor_7 : decode cX10_landFor 7 = .ok (.aload 5, 2) := by decide +kernel
theorem dX10_landFor_9 : decode cX10_landFor 9 = .ok (.ifnull 28, 3) := by decide +kernel
theorem dX10_landFor_12 : decode cX10_landFor 12 = .ok (.iload_n 2, 1) := by decide +kernel
theorem dX10_landFor_13 : decode cX10_landFor 13 = .ok (.iconst 1, 1) := by decide +kernel
theorem dX10_landFor_14 : decode cX10_landFor 14 = .ok (.bipush 12, 2) := by decide +kernel
theorem dX10_landFor_16 : decode cX10_landFor 16 = .ok (.invokestatic 90, 3) := by decide +kernel
theorem dX10_landFor_19 : decode cX10_landFor 19 = .ok (.ifCond .eq 18, 3) := by decide +kernel
theorem dX10_landFor_22 : decode cX10_landFor 22 = .ok (.iload_n 3, 1) := by decide +kernel
theorem dX10_landFor_23 : decode cX10_landFor 23 = .ok (.iconst 0, 1) := by decide +kernel
theorem dX10_landFor_24 : decode cX10_landFor 24 = .ok (.aload 5, 2) := by decide +kernel
theorem dX10_landFor_26 : decode cX10_landFor 26 = .ok (.getfield 119, 3) := by decide +kernel
theorem dX10_landFor_29 : decode cX10_landFor 29 = .ok (.iconst 1, 1) := by decide +kernel
theorem dX10_landFor_30 : decode cX10_landFor 30 = .ok (.isub, 1) := by decide +kernel
theorem dX10_landFor_31 : decode cX10_landFor 31 = .ok (.invokestatic 90, 3) := by decide +kernel
theorem dX10_landFor_34 : decode cX10_landFor 34 = .ok (.ifCond .ne 5, 3) := by decide +kernel
theorem dX10_landFor_37 : decode cX10_landFor 37 = .ok (.aconst_null, 1) := by decide +kernel
theorem dX10_landFor_38 : decode cX10_landFor 38 = .ok (.areturn, 1) := by decide +kernel
theorem dX10_landFor_39 : decode cX10_landFor 39 = .ok (.iload 4, 2) := by decide +kernel
theorem dX10_landFor_41 : decode cX10_landFor 41 = .ok (.iconst 0, 1) := by decide +kernel
theorem dX10_landFor_42 : decode cX10_landFor 42 = .ok (.bipush 40, 2) := by decide +kernel
theorem dX10_landFor_44 : decode cX10_landFor 44 = .ok (.invokestatic 90, 3) := by decide +kernel
theorem dX10_landFor_47 : decode cX10_landFor 47 = .ok (.ifCond .eq 8, 3) := by decide +kernel
theorem dX10_landFor_50 : decode cX10_landFor 50 = .ok (.aload 5, 2) := by decide +kernel
theorem dX10_landFor_52 : decode cX10_landFor 52 = .ok (.goto 4, 3) := by decide +kernel
theorem dX10_landFor_55 : decode cX10_landFor 55 = .ok (.aconst_null, 1) := by decide +kernel
theorem dX10_landFor_56 : decode cX10_landFor 56 = .ok (.areturn, 1) := by decide +kernel
theorem dX10_planFor_0 : decode cX10_planFor 0 = .ok (.aload_n 0, 1) := by decide +kernel
theorem dX10_planFor_1 : decode cX10_planFor 1 = .ok (.iload_n 1, 1) := by decide +kernel
theorem dX10_planFor_2 : decode cX10_planFor 2 = .ok (.iload_n 3, 1) := by decide +kernel
theorem dX10_planFor_3 : decode cX10_planFor 3 = .ok (.iload 4, 2) := by decide +kernel
theorem dX10_planFor_5 : decode cX10_planFor 5 = .ok (.iload 5, 2) := by decide +kernel
theorem dX10_planFor_7 : decode cX10_planFor 7 = .ok (.invokevirtual 199, 3) := by decide +kernel
theorem dX10_planFor_10 : decode cX10_planFor 10 = .ok (.astore 6, 2) := by decide +kernel
theorem dX10_planFor_12 : decode cX10_planFor 12 = .ok (.aload 6, 2) := by decide +kernel
theorem dX10_planFor_14 : decode cX10_planFor 14 = .ok (.ifnull 12, 3) := by decide +kernel
theorem dX10_planFor_17 : decode cX10_planFor 17 = .ok (.iload_n 2, 1) := by decide +kernel
theorem dX10_planFor_18 : decode cX10_planFor 18 = .ok (.iconst 0, 1) := by decide +kernel
theorem dX10_planFor_19 : decode cX10_planFor 19 = .ok (.iconst 4, 1) := by decide +kernel
theorem dX10_planFor_20 : decode cX10_planFor 20 = .ok (.invokestatic 90, 3) := by decide +kernel
theorem dX10_planFor_23 : decode cX10_planFor 23 = .ok (.ifCond .ne 7, 3) := by decide +kernel
theorem dX10_planFor_26 : decode cX10_planFor 26 = .ok (.aconst_null, 1) := by decide +kernel
theorem dX10_planFor_27 : decode cX10_planFor 27 = .ok (.goto 9, 3) := by decide +kernel
theorem dX10_planFor_30 : decode cX10_planFor 30 = .ok (.aload 6, 2) := by decide +kernel
theorem dX10_planFor_32 : decode cX10_planFor 32 = .ok (.iload_n 2, 1) := by decide +kernel
theorem dX10_planFor_33 : decode cX10_planFor 33 = .ok (.invokevirtual 306, 3) := by decide +kernel
theorem dX10_planFor_36 : decode cX10_planFor 36 = .ok (.areturn, 1) := by decide +kernel
theorem dX10_planAt_0 : decode cX10_planAt 0 = .ok (.aload_n 0, 1) := by decide +kernel
theorem dX10_planAt_1 : decode cX10_planAt 1 = .ok (.iload_n 1, 1) := by decide +kernel
theorem dX10_planAt_2 : decode cX10_planAt 2 = .ok (.iload_n 2, 1) := by decide +kernel
theorem dX10_planAt_3 : decode cX10_planAt 3 = .ok (.iload_n 3, 1) := by decide +kernel
theorem dX10_planAt_4 : decode cX10_planAt 4 = .ok (.iload 4, 2) := by decide +kernel
theorem dX10_planAt_6 : decode cX10_planAt 6 = .ok (.iload 5, 2) := by decide +kernel
theorem dX10_planAt_8 : decode cX10_planAt 8 = .ok (.invokevirtual 314, 3) := by decide +kernel
theorem dX10_planAt_11 : decode cX10_planAt 11 = .ok (.astore 6, 2) := by decide +kernel
theorem dX10_planAt_13 : decode cX10_planAt 13 = .ok (.aload 6, 2) := by decide +kernel
theorem dX10_planAt_15 : decode cX10_planAt 15 = .ok (.ifnull 11, 3) := by decide +kernel
theorem dX10_planAt_18 : decode cX10_planAt 18 = .ok (.aload 6, 2) := by decide +kernel
theorem dX10_planAt_20 : decode cX10_planAt 20 = .ok (.iload_n 3, 1) := by decide +kernel
theorem dX10_planAt_21 : decode cX10_planAt 21 = .ok (.iload 4, 2) := by decide +kernel
theorem dX10_planAt_23 : decode cX10_planAt 23 = .ok (.invokevirtual 227, 3) := by decide +kernel
theorem dX10_planAt_26 : decode cX10_planAt 26 = .ok (.aload 6, 2) := by decide +kernel
theorem dX10_planAt_28 : decode cX10_planAt 28 = .ok (.areturn, 1) := by decide +kernel
theorem dX10_planForAllSeasons_0 : decode cX10_planForAllSeasons 0 = .ok (.aload_n 0, 1) := by decide +kernel
theorem dX10_planForAllSeasons_1 : decode cX10_planForAllSeasons 1 = .ok (.iload_n 1, 1) := by decide +kernel
theorem dX10_planForAllSeasons_2 : decode cX10_planForAllSeasons 2 = .ok (.iload_n 2, 1) := by decide +kernel
theorem dX10_planForAllSeasons_3 : decode cX10_planForAllSeasons 3 = .ok (.iload_n 3, 1) := by decide +kernel
theorem dX10_planForAllSeasons_4 : decode cX10_planForAllSeasons 4 = .ok (.iconst 0, 1) := by decide +kernel
theorem dX10_planForAllSeasons_5 : decode cX10_planForAllSeasons 5 = .ok (.iconst 0, 1) := by decide +kernel
theorem dX10_planForAllSeasons_6 : decode cX10_planForAllSeasons 6 = .ok (.invokevirtual 314, 3) := by decide +kernel
theorem dX10_planForAllSeasons_9 : decode cX10_planForAllSeasons 9 = .ok (.astore 4, 2) := by decide +kernel
theorem dX10_planForAllSeasons_11 : decode cX10_planForAllSeasons 11 = .ok (.iconst 0, 1) := by decide +kernel
theorem dX10_planForAllSeasons_12 : decode cX10_planForAllSeasons 12 = .ok (.istore 5, 2) := by decide +kernel
theorem dX10_planForAllSeasons_14 : decode cX10_planForAllSeasons 14 = .ok (.aload 4, 2) := by decide +kernel
theorem dX10_planForAllSeasons_16 : decode cX10_planForAllSeasons 16 = .ok (.ifnull 30, 3) := by decide +kernel
theorem dX10_planForAllSeasons_19 : decode cX10_planForAllSeasons 19 = .ok (.iload 5, 2) := by decide +kernel
theorem dX10_planForAllSeasons_21 : decode cX10_planForAllSeasons 21 = .ok (.aload 4, 2) := by decide +kernel
theorem dX10_planForAllSeasons_23 : decode cX10_planForAllSeasons 23 = .ok (.getfield 240, 3) := by decide +kernel
theorem dX10_planForAllSeasons_26 : decode cX10_planForAllSeasons 26 = .ok (.getfield 119, 3) := by decide +kernel
theorem dX10_planForAllSeasons_29 : decode cX10_planForAllSeasons 29 = .ok (.if_icmp .ge 17, 3) := by decide +kernel
theorem dX10_planForAllSeasons_32 : decode cX10_planForAllSeasons 32 = .ok (.aload 4, 2) := by decide +kernel
theorem dX10_planForAllSeasons_34 : decode cX10_planForAllSeasons 34 = .ok (.iload_n 3, 1) := by decide +kernel
theorem dX10_planForAllSeasons_35 : decode cX10_planForAllSeasons 35 = .ok (.iload 5, 2) := by decide +kernel
theorem dX10_planForAllSeasons_37 : decode cX10_planForAllSeasons 37 = .ok (.invokevirtual 227, 3) := by decide +kernel
theorem dX10_planForAllSeasons_40 : decode cX10_planForAllSeasons 40 = .ok (.iinc 5 1, 3) := by decide +kernel
theorem dX10_planForAllSeasons_43 : decode cX10_planForAllSeasons 43 = .ok (.goto (-29), 3) := by decide +kernel
theorem dX10_planForAllSeasons_46 : decode cX10_planForAllSeasons 46 = .ok (.aload 4, 2) := by decide +kernel
theorem dX10_planForAllSeasons_48 : decode cX10_planForAllSeasons 48 = .ok (.areturn, 1) := by decide +kernel
theorem dX10_within_0 : decode cX10_within 0 = .ok (.iload_n 0, 1) := by decide +kernel
theorem dX10_within_1 : decode cX10_within 1 = .ok (.iload_n 1, 1) := by decide +kernel
theorem dX10_within_2 : decode cX10_within 2 = .ok (.if_icmp .lt 12, 3) := by decide +kernel
theorem dX10_within_5 : decode cX10_within 5 = .ok (.iload_n 0, 1) := by decide +kernel
theorem dX10_within_6 : decode cX10_within 6 = .ok (.iload_n 2, 1) := by decide +kernel
theorem dX10_within_7 : decode cX10_within 7 = .ok (.if_icmp .gt 7, 3) := by decide +kernel
theorem dX10_within_10 : decode cX10_within 10 = .ok (.iconst 1, 1) := by decide +kernel
theorem dX10_within_11 : decode cX10_within 11 = .ok (.goto 4, 3) := by decide +kernel
theorem dX10_within_14 : decode cX10_within 14 = .ok (.iconst 0, 1) := by decide +kernel
theorem dX10_within_15 : decode cX10_within 15 = .ok (.ireturn, 1) := by decide +kernel
