/-! decode -/
theorem dX6_init_0 : decode cX6_init 0 = .ok (.aload_n 0, 1) := by decide +kernel
theorem dX6_init_1 : decode cX6_init 1 = .ok (.invokespecial 3, 3) := by decide +kernel
theorem dX6_init_4 : decode cX6_init 4 = .ok (.aload_n 0, 1) := by decide +kernel
theorem dX6_init_5 : decode cX6_init 5 = .ok (.bipush 41, 2) := by decide +kernel
theorem dX6_init_7 : decode cX6_init 7 = .ok (.newarray .long, 2) := by decide +kernel
theorem dX6_init_9 : decode cX6_init 9 = .ok (.putfield 9, 3) := by decide +kernel
theorem dX6_init_12 : decode cX6_init 12 = .ok (.aload_n 0, 1) := by decide +kernel
theorem dX6_init_13 : decode cX6_init 13 = .ok (.bipush 41, 2) := by decide +kernel
theorem dX6_init_15 : decode cX6_init 15 = .ok (.newarray .long, 2) := by decide +kernel
theorem dX6_init_17 : decode cX6_init 17 = .ok (.putfield 15, 3) := by decide +kernel
theorem dX6_init_20 : decode cX6_init 20 = .ok (.return_, 1) := by decide +kernel
theorem dX6_begin_0 : decode cX6_begin 0 = .ok (.aload_n 0, 1) := by decide +kernel
theorem dX6_begin_1 : decode cX6_begin 1 = .ok (.getfield 9, 3) := by decide +kernel
theorem dX6_begin_4 : decode cX6_begin 4 = .ok (.lconst 0, 1) := by decide +kernel
theorem dX6_begin_5 : decode cX6_begin 5 = .ok (.invokestatic 18, 3) := by decide +kernel
theorem dX6_begin_8 : decode cX6_begin 8 = .ok (.aload_n 0, 1) := by decide +kernel
theorem dX6_begin_9 : decode cX6_begin 9 = .ok (.getfield 9, 3) := by decide +kernel
theorem dX6_begin_12 : decode cX6_begin 12 = .ok (.iload_n 1, 1) := by decide +kernel
theorem dX6_begin_13 : decode cX6_begin 13 = .ok (.lconst 1, 1) := by decide +kernel
theorem dX6_begin_14 : decode cX6_begin 14 = .ok (.lastore, 1) := by decide +kernel
theorem dX6_begin_15 : decode cX6_begin 15 = .ok (.return_, 1) := by decide +kernel
theorem dX6_step_0 : decode cX6_step 0 = .ok (.aload_n 1, 1) := by decide +kernel
theorem dX6_step_1 : decode cX6_step 1 = .ok (.getfield 24, 3) := by decide +kernel
theorem dX6_step_4 : decode cX6_step 4 = .ok (.astore 4, 2) := by decide +kernel
theorem dX6_step_6 : decode cX6_step 6 = .ok (.aload 4, 2) := by decide +kernel
theorem dX6_step_8 : decode cX6_step 8 = .ok (.iload_n 3, 1) := by decide +kernel
theorem dX6_step_9 : decode cX6_step 9 = .ok (.invokevirtual 30, 3) := by decide +kernel
theorem dX6_step_12 : decode cX6_step 12 = .ok (.istore 5, 2) := by decide +kernel
theorem dX6_step_14 : decode cX6_step 14 = .ok (.aload_n 0, 1) := by decide +kernel
theorem dX6_step_15 : decode cX6_step 15 = .ok (.getfield 15, 3) := by decide +kernel
theorem dX6_step_18 : decode cX6_step 18 = .ok (.lconst 0, 1) := by decide +kernel
theorem dX6_step_19 : decode cX6_step 19 = .ok (.invokestatic 18, 3) := by decide +kernel
theorem dX6_step_22 : decode cX6_step 22 = .ok (.iconst 0, 1) := by decide +kernel
theorem dX6_step_23 : decode cX6_step 23 = .ok (.istore 6, 2) := by decide +kernel
theorem dX6_step_25 : decode cX6_step 25 = .ok (.iload 6, 2) := by decide +kernel
theorem dX6_step_27 : decode cX6_step 27 = .ok (.bipush 40, 2) := by decide +kernel
theorem dX6_step_29 : decode cX6_step 29 = .ok (.if_icmp .gt 103, 3) := by decide +kernel
theorem dX6_step_32 : decode cX6_step 32 = .ok (.aload_n 0, 1) := by decide +kernel
theorem dX6_step_33 : decode cX6_step 33 = .ok (.getfield 9, 3) := by decide +kernel
theorem dX6_step_36 : decode cX6_step 36 = .ok (.iload 6, 2) := by decide +kernel
theorem dX6_step_38 : decode cX6_step 38 = .ok (.laload, 1) := by decide +kernel
theorem dX6_step_39 : decode cX6_step 39 = .ok (.lconst 0, 1) := by decide +kernel
theorem dX6_step_40 : decode cX6_step 40 = .ok (.lcmp, 1) := by decide +kernel
theorem dX6_step_41 : decode cX6_step 41 = .ok (.ifCond .eq 85, 3) := by decide +kernel
theorem dX6_step_44 : decode cX6_step 44 = .ok (.aload 4, 2) := by decide +kernel
theorem dX6_step_46 : decode cX6_step 46 = .ok (.aload_n 1, 1) := by decide +kernel
theorem dX6_step_47 : decode cX6_step 47 = .ok (.iload_n 2, 1) := by decide +kernel
theorem dX6_step_48 : decode cX6_step 48 = .ok (.iload_n 3, 1) := by decide +kernel
theorem dX6_step_49 : decode cX6_step 49 = .ok (.iload 6, 2) := by decide +kernel
theorem dX6_step_51 : decode cX6_step 51 = .ok (.invokevirtual 36, 3) := by decide +kernel
theorem dX6_step_54 : decode cX6_step 54 = .ok (.invokevirtual 40, 3) := by decide +kernel
theorem dX6_step_57 : decode cX6_step 57 = .ok (.istore 7, 2) := by decide +kernel
theorem dX6_step_59 : decode cX6_step 59 = .ok (.iconst 0, 1) := by decide +kernel
theorem dX6_step_60 : decode cX6_step 60 = .ok (.istore 8, 2) := by decide +kernel
theorem dX6_step_62 : decode cX6_step 62 = .ok (.iload 8, 2) := by decide +kernel
theorem dX6_step_64 : decode cX6_step 64 = .ok (.aload 4, 2) := by decide +kernel
theorem dX6_step_66 : decode cX6_step 66 = .ok (.getfield 43, 3) := by decide +kernel
theorem dX6_step_69 : decode cX6_step 69 = .ok (.iload 5, 2) := by decide +kernel
theorem dX6_step_71 : decode cX6_step 71 = .ok (.iaload, 1) := by decide +kernel
theorem dX6_step_72 : decode cX6_step 72 = .ok (.if_icmp .ge 54, 3) := by decide +kernel
theorem dX6_step_75 : decode cX6_step 75 = .ok (.iload 5, 2) := by decide +kernel
theorem dX6_step_77 : decode cX6_step 77 = .ok (.iconst 4, 1) := by decide +kernel
theorem dX6_step_78 : decode cX6_step 78 = .ok (.imul, 1) := by decide +kernel
theorem dX6_step_79 : decode cX6_step 79 = .ok (.iload 8, 2) := by decide +kernel
theorem dX6_step_81 : decode cX6_step 81 = .ok (.iadd, 1) := by decide +kernel
theorem dX6_step_82 : decode cX6_step 82 = .ok (.istore 9, 2) := by decide +kernel
theorem dX6_step_84 : decode cX6_step 84 = .ok (.aload_n 0, 1) := by decide +kernel
theorem dX6_step_85 : decode cX6_step 85 = .ok (.getfield 15, 3) := by decide +kernel
theorem dX6_step_88 : decode cX6_step 88 = .ok (.iload 7, 2) := by decide +kernel
theorem dX6_step_90 : decode cX6_step 90 = .ok (.aload 4, 2) := by decide +kernel
theorem dX6_step_92 : decode cX6_step 92 = .ok (.getfield 47, 3) := by decide +kernel
theorem dX6_step_95 : decode cX6_step 95 = .ok (.iload 9, 2) := by decide +kernel
theorem dX6_step_97 : decode cX6_step 97 = .ok (.iaload, 1) := by decide +kernel
theorem dX6_step_98 : decode cX6_step 98 = .ok (.iadd, 1) := by decide +kernel
theorem dX6_step_99 : decode cX6_step 99 = .ok (.dup2, 1) := by decide +kernel
theorem dX6_step_100 : decode cX6_step 100 = .ok (.laload, 1) := by decide +kernel
theorem dX6_step_101 : decode cX6_step 101 = .ok (.aload_n 0, 1) := by decide +kernel
theorem dX6_step_102 : decode cX6_step 102 = .ok (.getfield 9, 3) := by decide +kernel
theorem dX6_step_105 : decode cX6_step 105 = .ok (.iload 6, 2) := by decide +kernel
theorem dX6_step_107 : decode cX6_step 107 = .ok (.laload, 1) := by decide +kernel
theorem dX6_step_108 : decode cX6_step 108 = .ok (.aload 4, 2) := by decide +kernel
theorem dX6_step_110 : decode cX6_step 110 = .ok (.getfield 50, 3) := by decide +kernel
theorem dX6_step_113 : decode cX6_step 113 = .ok (.iload 9, 2) := by decide +kernel
theorem dX6_step_115 : decode cX6_step 115 = .ok (.iaload, 1) := by decide +kernel
theorem dX6_step_116 : decode cX6_step 116 = .ok (.i2l, 1) := by decide +kernel
theorem dX6_step_117 : decode cX6_step 117 = .ok (.lmul, 1) := by decide +kernel
theorem dX6_step_118 : decode cX6_step 118 = .ok (.ladd, 1) := by decide +kernel
theorem dX6_step_119 : decode cX6_step 119 = .ok (.lastore, 1) := by decide +kernel
theorem dX6_step_120 : decode cX6_step 120 = .ok (.iinc 8 1, 3) := by decide +kernel
theorem dX6_step_123 : decode cX6_step 123 = .ok (.goto (-61), 3) := by decide +kernel
theorem dX6_step_126 : decode cX6_step 126 = .ok (.iinc 6 1, 3) := by decide +kernel
theorem dX6_step_129 : decode cX6_step 129 = .ok (.goto (-104), 3) := by decide +kernel
theorem dX6_step_132 : decode cX6_step 132 = .ok (.aload_n 0, 1) := by decide +kernel
theorem dX6_step_133 : decode cX6_step 133 = .ok (.getfield 9, 3) := by decide +kernel
theorem dX6_step_136 : decode cX6_step 136 = .ok (.astore 6, 2) := by decide +kernel
theorem dX6_step_138 : decode cX6_step 138 = .ok (.aload_n 0, 1) := by decide +kernel
theorem dX6_step_139 : decode cX6_step 139 = .ok (.aload_n 0, 1) := by decide +kernel
theorem dX6_step_140 : decode cX6_step 140 = .ok (.getfield 15, 3) := by decide +kernel
theorem dX6_step_143 : decode cX6_step 143 = .ok (.putfield 9, 3) := by decide +kernel
theorem dX6_step_146 : decode cX6_step 146 = .ok (.aload_n 0, 1) := by decide +kernel
theorem dX6_step_147 : decode cX6_step 147 = .ok (.aload 6, 2) := by decide +kernel
theorem dX6_step_149 : decode cX6_step 149 = .ok (.putfield 15, 3) := by decide +kernel
theorem dX6_step_152 : decode cX6_step 152 = .ok (.return_, 1) := by decide +kernel
theorem dX6_weigh_0 : decode cX6_weigh 0 = .ok (.lconst 0, 1) := by decide +kernel
theorem dX6_weigh_1 : decode cX6_weigh 1 = .ok (.lstore 6, 2) := by decide +kernel
theorem dX6_weigh_3 : decode cX6_weigh 3 = .ok (.iconst 0, 1) := by decide +kernel
theorem dX6_weigh_4 : decode cX6_weigh 4 = .ok (.istore 8, 2) := by decide +kernel
theorem dX6_weigh_6 : decode cX6_weigh 6 = .ok (.iload 8, 2) := by decide +kernel
theorem dX6_weigh_8 : decode cX6_weigh 8 = .ok (.bipush 40, 2) := by decide +kernel
theorem dX6_weigh_10 : decode cX6_weigh 10 = .ok (.if_icmp .gt 65, 3) := by decide +kernel
theorem dX6_weigh_13 : decode cX6_weigh 13 = .ok (.aload_n 0, 1) := by decide +kernel
theorem dX6_weigh_14 : decode cX6_weigh 14 = .ok (.getfield 9, 3) := by decide +kernel
theorem dX6_weigh_17 : decode cX6_weigh 17 = .ok (.iload 8, 2) := by decide +kernel
theorem dX6_weigh_19 : decode cX6_weigh 19 = .ok (.laload, 1) := by decide +kernel
theorem dX6_weigh_20 : decode cX6_weigh 20 = .ok (.lconst 0, 1) := by decide +kernel
theorem dX6_weigh_21 : decode cX6_weigh 21 = .ok (.lcmp, 1) := by decide +kernel
theorem dX6_weigh_22 : decode cX6_weigh 22 = .ok (.ifCond .eq 47, 3) := by decide +kernel
theorem dX6_weigh_25 : decode cX6_weigh 25 = .ok (.aload_n 1, 1) := by decide +kernel
theorem dX6_weigh_26 : decode cX6_weigh 26 = .ok (.iload_n 2, 1) := by decide +kernel
theorem dX6_weigh_27 : decode cX6_weigh 27 = .ok (.iload_n 3, 1) := by decide +kernel
theorem dX6_weigh_28 : decode cX6_weigh 28 = .ok (.iload 8, 2) := by decide +kernel
theorem dX6_weigh_30 : decode cX6_weigh 30 = .ok (.invokevirtual 36, 3) := by decide +kernel
theorem dX6_weigh_33 : decode cX6_weigh 33 = .ok (.istore 9, 2) := by decide +kernel
theorem dX6_weigh_35 : decode cX6_weigh 35 = .ok (.lload 6, 2) := by decide +kernel
theorem dX6_weigh_37 : decode cX6_weigh 37 = .ok (.aload_n 0, 1) := by decide +kernel
theorem dX6_weigh_38 : decode cX6_weigh 38 = .ok (.getfield 9, 3) := by decide +kernel
theorem dX6_weigh_41 : decode cX6_weigh 41 = .ok (.iload 8, 2) := by decide +kernel
theorem dX6_weigh_43 : decode cX6_weigh 43 = .ok (.laload, 1) := by decide +kernel
theorem dX6_weigh_44 : decode cX6_weigh 44 = .ok (.iload 4, 2) := by decide +kernel
theorem dX6_weigh_46 : decode cX6_weigh 46 = .ok (.iload 5, 2) := by decide +kernel
theorem dX6_weigh_48 : decode cX6_weigh 48 = .ok (.iload 8, 2) := by decide +kernel
theorem dX6_weigh_50 : decode cX6_weigh 50 = .ok (.iload 9, 2) := by decide +kernel
theorem dX6_weigh_52 : decode cX6_weigh 52 = .ok (.aload_n 1, 1) := by decide +kernel
theorem dX6_weigh_53 : decode cX6_weigh 53 = .ok (.iload 8, 2) := by decide +kernel
theorem dX6_weigh_55 : decode cX6_weigh 55 = .ok (.iload 9, 2) := by decide +kernel
theorem dX6_weigh_57 : decode cX6_weigh 57 = .ok (.isub, 1) := by decide +kernel
theorem dX6_weigh_58 : decode cX6_weigh 58 = .ok (.invokevirtual 53, 3) := by decide +kernel
theorem dX6_weigh_61 : decode cX6_weigh 61 = .ok (.invokestatic 56, 3) := by decide +kernel
theorem dX6_weigh_64 : decode cX6_weigh 64 = .ok (.i2l, 1) := by decide +kernel
theorem dX6_weigh_65 : decode cX6_weigh 65 = .ok (.lmul, 1) := by decide +kernel
theorem dX6_weigh_66 : decode cX6_weigh 66 = .ok (.ladd, 1) := by decide +kernel
theorem dX6_weigh_67 : decode cX6_weigh 67 = .ok (.lstore 6, 2) := by decide +kernel
theorem dX6_weigh_69 : decode cX6_weigh 69 = .ok (.iinc 8 1, 3) := by decide +kernel
theorem dX6_weigh_72 : decode cX6_weigh 72 = .ok (.goto (-66), 3) := by decide +kernel
theorem dX6_weigh_75 : decode cX6_weigh 75 = .ok (.lload 6, 2) := by decide +kernel
theorem dX6_weigh_77 : decode cX6_weigh 77 = .ok (.lreturn, 1) := by decide +kernel
theorem dX6_share_0 : decode cX6_share 0 = .ok (.iload_n 0, 1) := by decide +kernel
theorem dX6_share_1 : decode cX6_share 1 = .ok (.tableswitch 67 0 3 #[31, 42, 52, 64], 31) := by decide +kernel
theorem dX6_share_32 : decode cX6_share 32 = .ok (.iload_n 2, 1) := by decide +kernel
theorem dX6_share_33 : decode cX6_share 33 = .ok (.iload_n 1, 1) := by decide +kernel
theorem dX6_share_34 : decode cX6_share 34 = .ok (.if_icmp .gt 7, 3) := by decide +kernel
theorem dX6_share_37 : decode cX6_share 37 = .ok (.iconst 1, 1) := by decide +kernel
theorem dX6_share_38 : decode cX6_share 38 = .ok (.goto 4, 3) := by decide +kernel
theorem dX6_share_41 : decode cX6_share 41 = .ok (.iconst 0, 1) := by decide +kernel
theorem dX6_share_42 : decode cX6_share 42 = .ok (.ireturn, 1) := by decide +kernel
theorem dX6_share_43 : decode cX6_share 43 = .ok (.iload_n 3, 1) := by decide +kernel
theorem dX6_share_44 : decode cX6_share 44 = .ok (.ifCond .ne 7, 3) := by decide +kernel
theorem dX6_share_47 : decode cX6_share 47 = .ok (.iconst 1, 1) := by decide +kernel
theorem dX6_share_48 : decode cX6_share 48 = .ok (.goto 4, 3) := by decide +kernel
theorem dX6_share_51 : decode cX6_share 51 = .ok (.iconst 0, 1) := by decide +kernel
theorem dX6_share_52 : decode cX6_share 52 = .ok (.ireturn, 1) := by decide +kernel
theorem dX6_share_53 : decode cX6_share 53 = .ok (.iload 4, 2) := by decide +kernel
theorem dX6_share_55 : decode cX6_share 55 = .ok (.iload_n 1, 1) := by decide +kernel
theorem dX6_share_56 : decode cX6_share 56 = .ok (.if_icmp .lt 7, 3) := by decide +kernel
theorem dX6_share_59 : decode cX6_share 59 = .ok (.iconst 1, 1) := by decide +kernel
theorem dX6_share_60 : decode cX6_share 60 = .ok (.goto 4, 3) := by decide +kernel
theorem dX6_share_63 : decode cX6_share 63 = .ok (.iconst 0, 1) := by decide +kernel
theorem dX6_share_64 : decode cX6_share 64 = .ok (.ireturn, 1) := by decide +kernel
theorem dX6_share_65 : decode cX6_share 65 = .ok (.iload 4, 2) := by decide +kernel
theorem dX6_share_67 : decode cX6_share 67 = .ok (.ireturn, 1) := by decide +kernel
theorem dX6_share_68 : decode cX6_share 68 = .ok (.iconst 1, 1) := by decide +kernel
theorem dX6_share_69 : decode cX6_share 69 = .ok (.ireturn, 1) := by decide +kernel
theorem dX7_init_0 : decode cX7_init 0 = .ok (.aload_n 0, 1) := by decide +kernel
theorem dX7_init_1 : decode cX7_init 1 = .ok (.invokespecial 3, 3) := by decide +kernel
theorem dX7_init_4 : decode cX7_init 4 = .ok (.aload_n 0, 1) := by decide +kernel
theorem dX7_init_5 : decode cX7_init 5 = .ok (.iload_n 1, 1) := by decide +kernel
theorem dX7_init_6 : decode cX7_init 6 = .ok (.bipush 40, 2) := by decide +kernel
theorem dX7_init_8 : decode cX7_init 8 = .ok (.imul, 1) := by decide +kernel
theorem dX7_init_9 : decode cX7_init 9 = .ok (.bipush 7, 2) := by decide +kernel
theorem dX7_init_11 : decode cX7_init 11 = .ok (.imul, 1) := by decide +kernel
theorem dX7_init_12 : decode cX7_init 12 = .ok (.newarray .int, 2) := by decide +kernel
theorem dX7_init_14 : decode cX7_init 14 = .ok (.putfield 11, 3) := by decide +kernel
theorem dX7_init_17 : decode cX7_init 17 = .ok (.return_, 1) := by decide +kernel
theorem dX7_placeOf_0 : decode cX7_placeOf 0 = .ok (.iload_n 0, 1) := by decide +kernel
theorem dX7_placeOf_1 : decode cX7_placeOf 1 = .ok (.bipush 40, 2) := by decide +kernel
theorem dX7_placeOf_3 : decode cX7_placeOf 3 = .ok (.imul, 1) := by decide +kernel
theorem dX7_placeOf_4 : decode cX7_placeOf 4 = .ok (.iload_n 1, 1) := by decide +kernel
theorem dX7_placeOf_5 : decode cX7_placeOf 5 = .ok (.iadd, 1) := by decide +kernel
theorem dX7_placeOf_6 : decode cX7_placeOf 6 = .ok (.bipush 7, 2) := by decide +kernel
theorem dX7_placeOf_8 : decode cX7_placeOf 8 = .ok (.imul, 1) := by decide +kernel
theorem dX7_placeOf_9 : decode cX7_placeOf 9 = .ok (.ireturn, 1) := by decide +kernel
theorem dX7_tellOfOne_0 : decode cX7_tellOfOne 0 = .ok (.aload_n 0, 1) := by decide +kernel
theorem dX7_tellOfOne_1 : decode cX7_tellOfOne 1 = .ok (.iconst 1, 1) := by decide +kernel
theorem dX7_tellOfOne_2 : decode cX7_tellOfOne 2 = .ok (.putfield 15, 3) := by decide +kernel
theorem dX7_tellOfOne_5 : decode cX7_tellOfOne 5 = .ok (.aload_n 0, 1) := by decide +kernel
theorem dX7_tellOfOne_6 : decode cX7_tellOfOne 6 = .ok (.iload_n 3, 1) := by decide +kernel
theorem dX7_tellOfOne_7 : decode cX7_tellOfOne 7 = .ok (.putfield 19, 3) := by decide +kernel
theorem dX7_tellOfOne_10 : decode cX7_tellOfOne 10 = .ok (.iconst 0, 1) := by decide +kernel
theorem dX7_tellOfOne_11 : decode cX7_tellOfOne 11 = .ok (.istore 4, 2) := by decide +kernel
theorem dX7_tellOfOne_13 : decode cX7_tellOfOne 13 = .ok (.iconst 0, 1) := by decide +kernel
theorem dX7_tellOfOne_14 : decode cX7_tellOfOne 14 = .ok (.istore 5, 2) := by decide +kernel
theorem dX7_tellOfOne_16 : decode cX7_tellOfOne 16 = .ok (.iload 5, 2) := by decide +kernel
theorem dX7_tellOfOne_18 : decode cX7_tellOfOne 18 = .ok (.iload_n 3, 1) := by decide +kernel
theorem dX7_tellOfOne_19 : decode cX7_tellOfOne 19 = .ok (.if_icmp .ge 48, 3) := by decide +kernel
theorem dX7_tellOfOne_22 : decode cX7_tellOfOne 22 = .ok (.aload_n 1, 1) := by decide +kernel
theorem dX7_tellOfOne_23 : decode cX7_tellOfOne 23 = .ok (.iload 5, 2) := by decide +kernel
theorem dX7_tellOfOne_25 : decode cX7_tellOfOne 25 = .ok (.iload 4, 2) := by decide +kernel
theorem dX7_tellOfOne_27 : decode cX7_tellOfOne 27 = .ok (.iload_n 2, 1) := by decide +kernel
theorem dX7_tellOfOne_28 : decode cX7_tellOfOne 28 = .ok (.invokevirtual 22, 3) := by decide +kernel
theorem dX7_tellOfOne_31 : decode cX7_tellOfOne 31 = .ok (.aload_n 1, 1) := by decide +kernel
theorem dX7_tellOfOne_32 : decode cX7_tellOfOne 32 = .ok (.invokevirtual 28, 3) := by decide +kernel
theorem dX7_tellOfOne_35 : decode cX7_tellOfOne 35 = .ok (.aload_n 0, 1) := by decide +kernel
theorem dX7_tellOfOne_36 : decode cX7_tellOfOne 36 = .ok (.iconst 0, 1) := by decide +kernel
theorem dX7_tellOfOne_37 : decode cX7_tellOfOne 37 = .ok (.iload 5, 2) := by decide +kernel
theorem dX7_tellOfOne_39 : decode cX7_tellOfOne 39 = .ok (.invokestatic 31, 3) := by decide +kernel
theorem dX7_tellOfOne_42 : decode cX7_tellOfOne 42 = .ok (.aload_n 1, 1) := by decide +kernel
theorem dX7_tellOfOne_43 : decode cX7_tellOfOne 43 = .ok (.iconst 0, 1) := by decide +kernel
theorem dX7_tellOfOne_44 : decode cX7_tellOfOne 44 = .ok (.invokevirtual 35, 3) := by decide +kernel
theorem dX7_tellOfOne_47 : decode cX7_tellOfOne 47 = .ok (.aload_n 1, 1) := by decide +kernel
theorem dX7_tellOfOne_48 : decode cX7_tellOfOne 48 = .ok (.getfield 39, 3) := by decide +kernel
theorem dX7_tellOfOne_51 : decode cX7_tellOfOne 51 = .ok (.getfield 43, 3) := by decide +kernel
theorem dX7_tellOfOne_54 : decode cX7_tellOfOne 54 = .ok (.iload 4, 2) := by decide +kernel
theorem dX7_tellOfOne_56 : decode cX7_tellOfOne 56 = .ok (.invokevirtual 49, 3) := by decide +kernel
theorem dX7_tellOfOne_59 : decode cX7_tellOfOne 59 = .ok (.istore 4, 2) := by decide +kernel
theorem dX7_tellOfOne_61 : decode cX7_tellOfOne 61 = .ok (.iinc 5 1, 3) := by decide +kernel
theorem dX7_tellOfOne_64 : decode cX7_tellOfOne 64 = .ok (.goto (-48), 3) := by decide +kernel
theorem dX7_tellOfOne_67 : decode cX7_tellOfOne 67 = .ok (.aload_n 0, 1) := by decide +kernel
theorem dX7_tellOfOne_68 : decode cX7_tellOfOne 68 = .ok (.aload_n 1, 1) := by decide +kernel
theorem dX7_tellOfOne_69 : decode cX7_tellOfOne 69 = .ok (.getfield 55, 3) := by decide +kernel
theorem dX7_tellOfOne_72 : decode cX7_tellOfOne 72 = .ok (.putfield 58, 3) := by decide +kernel
theorem dX7_tellOfOne_75 : decode cX7_tellOfOne 75 = .ok (.return_, 1) := by decide +kernel
theorem dX7_tellOfTwo_0 : decode cX7_tellOfTwo 0 = .ok (.aload_n 0, 1) := by decide +kernel
theorem dX7_tellOfTwo_1 : decode cX7_tellOfTwo 1 = .ok (.iconst 2, 1) := by decide +kernel
theorem dX7_tellOfTwo_2 : decode cX7_tellOfTwo 2 = .ok (.putfield 15, 3) := by decide +kernel
theorem dX7_tellOfTwo_5 : decode cX7_tellOfTwo 5 = .ok (.aload_n 0, 1) := by decide +kernel
theorem dX7_tellOfTwo_6 : decode cX7_tellOfTwo 6 = .ok (.iload 4, 2) := by decide +kernel
theorem dX7_tellOfTwo_8 : decode cX7_tellOfTwo 8 = .ok (.putfield 19, 3) := by decide +kernel
theorem dX7_tellOfTwo_11 : decode cX7_tellOfTwo 11 = .ok (.aload_n 0, 1) := by decide +kernel
theorem dX7_tellOfTwo_12 : decode cX7_tellOfTwo 12 = .ok (.iconst 0, 1) := by decide +kernel
theorem dX7_tellOfTwo_13 : decode cX7_tellOfTwo 13 = .ok (.putfield 58, 3) := by decide +kernel
theorem dX7_tellOfTwo_16 : decode cX7_tellOfTwo 16 = .ok (.iconst 0, 1) := by decide +kernel
theorem dX7_tellOfTwo_17 : decode cX7_tellOfTwo 17 = .ok (.istore 6, 2) := by decide +kernel
theorem dX7_tellOfTwo_19 : decode cX7_tellOfTwo 19 = .ok (.iconst 0, 1) := by decide +kernel
theorem dX7_tellOfTwo_20 : decode cX7_tellOfTwo 20 = .ok (.istore 7, 2) := by decide +kernel
theorem dX7_tellOfTwo_22 : decode cX7_tellOfTwo 22 = .ok (.iload 7, 2) := by decide +kernel
theorem dX7_tellOfTwo_24 : decode cX7_tellOfTwo 24 = .ok (.iload 4, 2) := by decide +kernel
theorem dX7_tellOfTwo_26 : decode cX7_tellOfTwo 26 = .ok (.if_icmp .ge 89, 3) := by decide +kernel
theorem dX7_tellOfTwo_29 : decode cX7_tellOfTwo 29 = .ok (.aload_n 1, 1) := by decide +kernel
theorem dX7_tellOfTwo_30 : decode cX7_tellOfTwo 30 = .ok (.iload 7, 2) := by decide +kernel
theorem dX7_tellOfTwo_32 : decode cX7_tellOfTwo 32 = .ok (.iload 6, 2) := by decide +kernel
theorem dX7_tellOfTwo_34 : decode cX7_tellOfTwo 34 = .ok (.iload_n 3, 1) := by decide +kernel
theorem dX7_tellOfTwo_35 : decode cX7_tellOfTwo 35 = .ok (.invokevirtual 22, 3) := by decide +kernel
theorem dX7_tellOfTwo_38 : decode cX7_tellOfTwo 38 = .ok (.aload_n 2, 1) := by decide +kernel
theorem dX7_tellOfTwo_39 : decode cX7_tellOfTwo 39 = .ok (.iload 7, 2) := by decide +kernel
theorem dX7_tellOfTwo_41 : decode cX7_tellOfTwo 41 = .ok (.iload 6, 2) := by decide +kernel
theorem dX7_tellOfTwo_43 : decode cX7_tellOfTwo 43 = .ok (.iload_n 3, 1) := by decide +kernel
theorem dX7_tellOfTwo_44 : decode cX7_tellOfTwo 44 = .ok (.invokevirtual 22, 3) := by decide +kernel
theorem dX7_tellOfTwo_47 : decode cX7_tellOfTwo 47 = .ok (.aload_n 1, 1) := by decide +kernel
theorem dX7_tellOfTwo_48 : decode cX7_tellOfTwo 48 = .ok (.aload_n 2, 1) := by decide +kernel
theorem dX7_tellOfTwo_49 : decode cX7_tellOfTwo 49 = .ok (.iload 5, 2) := by decide +kernel
theorem dX7_tellOfTwo_51 : decode cX7_tellOfTwo 51 = .ok (.invokestatic 61, 3) := by decide +kernel
theorem dX7_tellOfTwo_54 : decode cX7_tellOfTwo 54 = .ok (.istore 8, 2) := by decide +kernel
theorem dX7_tellOfTwo_56 : decode cX7_tellOfTwo 56 = .ok (.iload 8, 2) := by decide +kernel
theorem dX7_tellOfTwo_58 : decode cX7_tellOfTwo 58 = .ok (.aload_n 2, 1) := by decide +kernel
theorem dX7_tellOfTwo_59 : decode cX7_tellOfTwo 59 = .ok (.aload_n 1, 1) := by decide +kernel
theorem dX7_tellOfTwo_60 : decode cX7_tellOfTwo 60 = .ok (.iload 5, 2) := by decide +kernel
theorem dX7_tellOfTwo_62 : decode cX7_tellOfTwo 62 = .ok (.invokestatic 61, 3) := by decide +kernel
theorem dX7_tellOfTwo_65 : decode cX7_tellOfTwo 65 = .ok (.isub, 1) := by decide +kernel
theorem dX7_tellOfTwo_66 : decode cX7_tellOfTwo 66 = .ok (.istore 8, 2) := by decide +kernel
theorem dX7_tellOfTwo_68 : decode cX7_tellOfTwo 68 = .ok (.aload_n 0, 1) := by decide +kernel
theorem dX7_tellOfTwo_69 : decode cX7_tellOfTwo 69 = .ok (.iconst 0, 1) := by decide +kernel
theorem dX7_tellOfTwo_70 : decode cX7_tellOfTwo 70 = .ok (.iload 7, 2) := by decide +kernel
theorem dX7_tellOfTwo_72 : decode cX7_tellOfTwo 72 = .ok (.invokestatic 31, 3) := by decide +kernel
theorem dX7_tellOfTwo_75 : decode cX7_tellOfTwo 75 = .ok (.aload_n 1, 1) := by decide +kernel
theorem dX7_tellOfTwo_76 : decode cX7_tellOfTwo 76 = .ok (.iload 8, 2) := by decide +kernel
theorem dX7_tellOfTwo_78 : decode cX7_tellOfTwo 78 = .ok (.invokevirtual 35, 3) := by decide +kernel
theorem dX7_tellOfTwo_81 : decode cX7_tellOfTwo 81 = .ok (.aload_n 0, 1) := by decide +kernel
theorem dX7_tellOfTwo_82 : decode cX7_tellOfTwo 82 = .ok (.iconst 1, 1) := by decide +kernel
theorem dX7_tellOfTwo_83 : decode cX7_tellOfTwo 83 = .ok (.iload 7, 2) := by decide +kernel
theorem dX7_tellOfTwo_85 : decode cX7_tellOfTwo 85 = .ok (.invokestatic 31, 3) := by decide +kernel
theorem dX7_tellOfTwo_88 : decode cX7_tellOfTwo 88 = .ok (.aload_n 2, 1) := by decide +kernel
theorem dX7_tellOfTwo_89 : decode cX7_tellOfTwo 89 = .ok (.iload 8, 2) := by decide +kernel
theorem dX7_tellOfTwo_91 : decode cX7_tellOfTwo 91 = .ok (.ineg, 1) := by decide +kernel
theorem dX7_tellOfTwo_92 : decode cX7_tellOfTwo 92 = .ok (.invokevirtual 35, 3) := by decide +kernel
theorem dX7_tellOfTwo_95 : decode cX7_tellOfTwo 95 = .ok (.aload_n 1, 1) := by decide +kernel
theorem dX7_tellOfTwo_96 : decode cX7_tellOfTwo 96 = .ok (.getfield 39, 3) := by decide +kernel
theorem dX7_tellOfTwo_99 : decode cX7_tellOfTwo 99 = .ok (.getfield 43, 3) := by decide +kernel
theorem dX7_tellOfTwo_102 : decode cX7_tellOfTwo 102 = .ok (.iload 6, 2) := by decide +kernel
theorem dX7_tellOfTwo_104 : decode cX7_tellOfTwo 104 = .ok (.invokevirtual 49, 3) := by decide +kernel
theorem dX7_tellOfTwo_107 : decode cX7_tellOfTwo 107 = .ok (.istore 6, 2) := by decide +kernel
theorem dX7_tellOfTwo_109 : decode cX7_tellOfTwo 109 = .ok (.iinc 7 1, 3) := by decide +kernel
theorem dX7_tellOfTwo_112 : decode cX7_tellOfTwo 112 = .ok (.goto (-90), 3) := by decide +kernel
theorem dX7_tellOfTwo_115 : decode cX7_tellOfTwo 115 = .ok (.return_, 1) := by decide +kernel
theorem dX7_carry_0 : decode cX7_carry 0 = .ok (.iconst 0, 1) := by decide +kernel
theorem dX7_carry_1 : decode cX7_carry 1 = .ok (.istore_n 3, 1) := by decide +kernel
theorem dX7_carry_2 : decode cX7_carry 2 = .ok (.aload_n 0, 1) := by decide +kernel
theorem dX7_carry_3 : decode cX7_carry 3 = .ok (.getfield 65, 3) := by decide +kernel
theorem dX7_carry_6 : decode cX7_carry 6 = .ok (.istore 4, 2) := by decide +kernel
theorem dX7_carry_8 : decode cX7_carry 8 = .ok (.iload 4, 2) := by decide +kernel
theorem dX7_carry_10 : decode cX7_carry 10 = .ok (.ifCond .le 48, 3) := by decide +kernel
theorem dX7_carry_13 : decode cX7_carry 13 = .ok (.aload_n 1, 1) := by decide +kernel
theorem dX7_carry_14 : decode cX7_carry 14 = .ok (.invokevirtual 68, 3) := by decide +kernel
theorem dX7_carry_17 : decode cX7_carry 17 = .ok (.aload_n 0, 1) := by decide +kernel
theorem dX7_carry_18 : decode cX7_carry 18 = .ok (.invokevirtual 72, 3) := by decide +kernel
theorem dX7_carry_21 : decode cX7_carry 21 = .ok (.iload_n 2, 1) := by decide +kernel
theorem dX7_carry_22 : decode cX7_carry 22 = .ok (.iadd, 1) := by decide +kernel
theorem dX7_carry_23 : decode cX7_carry 23 = .ok (.if_icmp .gt 6, 3) := by decide +kernel
theorem dX7_carry_26 : decode cX7_carry 26 = .ok (.goto 32, 3) := by decide +kernel
theorem dX7_carry_29 : decode cX7_carry 29 = .ok (.aload_n 0, 1) := by decide +kernel
theorem dX7_carry_30 : decode cX7_carry 30 = .ok (.dup, 1) := by decide +kernel
theorem dX7_carry_31 : decode cX7_carry 31 = .ok (.getfield 65, 3) := by decide +kernel
theorem dX7_carry_34 : decode cX7_carry 34 = .ok (.iconst 1, 1) := by decide +kernel
theorem dX7_carry_35 : decode cX7_carry 35 = .ok (.isub, 1) := by decide +kernel
theorem dX7_carry_36 : decode cX7_carry 36 = .ok (.putfield 65, 3) := by decide +kernel
theorem dX7_carry_39 : decode cX7_carry 39 = .ok (.aload_n 1, 1) := by decide +kernel
theorem dX7_carry_40 : decode cX7_carry 40 = .ok (.dup, 1) := by decide +kernel
theorem dX7_carry_41 : decode cX7_carry 41 = .ok (.getfield 65, 3) := by decide +kernel
theorem dX7_carry_44 : decode cX7_carry 44 = .ok (.iconst 1, 1) := by decide +kernel
theorem dX7_carry_45 : decode cX7_carry 45 = .ok (.iadd, 1) := by decide +kernel
theorem dX7_carry_46 : decode cX7_carry 46 = .ok (.putfield 65, 3) := by decide +kernel
theorem dX7_carry_49 : decode cX7_carry 49 = .ok (.iinc 3 1, 3) := by decide +kernel
theorem dX7_carry_52 : decode cX7_carry 52 = .ok (.iinc 4 (-1), 3) := by decide +kernel
theorem dX7_carry_55 : decode cX7_carry 55 = .ok (.goto (-47), 3) := by decide +kernel
theorem dX7_carry_58 : decode cX7_carry 58 = .ok (.iload_n 3, 1) := by decide +kernel
theorem dX7_carry_59 : decode cX7_carry 59 = .ok (.ireturn, 1) := by decide +kernel
theorem dX7_write_0 : decode cX7_write 0 = .ok (.aload_n 2, 1) := by decide +kernel
theorem dX7_write_1 : decode cX7_write 1 = .ok (.getfield 39, 3) := by decide +kernel
theorem dX7_write_4 : decode cX7_write 4 = .ok (.aload_n 2, 1) := by decide +kernel
theorem dX7_write_5 : decode cX7_write 5 = .ok (.getfield 65, 3) := by decide +kernel
theorem dX7_write_8 : decode cX7_write 8 = .ok (.invokevirtual 75, 3) := by decide +kernel
theorem dX7_write_11 : decode cX7_write 11 = .ok (.istore 4, 2) := by decide +kernel
theorem dX7_write_13 : decode cX7_write 13 = .ok (.aload_n 0, 1) := by decide +kernel
theorem dX7_write_14 : decode cX7_write 14 = .ok (.getfield 11, 3) := by decide +kernel
theorem dX7_write_17 : decode cX7_write 17 = .ok (.iload_n 1, 1) := by decide +kernel
theorem dX7_write_18 : decode cX7_write 18 = .ok (.aload_n 2, 1) := by decide +kernel
theorem dX7_write_19 : decode cX7_write 19 = .ok (.getfield 78, 3) := by decide +kernel
theorem dX7_write_22 : decode cX7_write 22 = .ok (.iastore, 1) := by decide +kernel
theorem dX7_write_23 : decode cX7_write 23 = .ok (.aload_n 0, 1) := by decide +kernel
theorem dX7_write_24 : decode cX7_write 24 = .ok (.getfield 11, 3) := by decide +kernel
theorem dX7_write_27 : decode cX7_write 27 = .ok (.iload_n 1, 1) := by decide +kernel
theorem dX7_write_28 : decode cX7_write 28 = .ok (.iconst 1, 1) := by decide +kernel
theorem dX7_write_29 : decode cX7_write 29 = .ok (.iadd, 1) := by decide +kernel
theorem dX7_write_30 : decode cX7_write 30 = .ok (.aload_n 2, 1) := by decide +kernel
theorem dX7_write_31 : decode cX7_write 31 = .ok (.getfield 81, 3) := by decide +kernel
theorem dX7_write_34 : decode cX7_write 34 = .ok (.iastore, 1) := by decide +kernel
theorem dX7_write_35 : decode cX7_write 35 = .ok (.aload_n 0, 1) := by decide +kernel
theorem dX7_write_36 : decode cX7_write 36 = .ok (.getfield 11, 3) := by decide +kernel
theorem dX7_write_39 : decode cX7_write 39 = .ok (.iload_n 1, 1) := by decide +kernel
theorem dX7_write_40 : decode cX7_write 40 = .ok (.iconst 2, 1) := by decide +kernel
theorem dX7_write_41 : decode cX7_write 41 = .ok (.iadd, 1) := by decide +kernel
theorem dX7_write_42 : decode cX7_write 42 = .ok (.iload 4, 2) := by decide +kernel
theorem dX7_write_44 : decode cX7_write 44 = .ok (.iastore, 1) := by decide +kernel
theorem dX7_write_45 : decode cX7_write 45 = .ok (.aload_n 0, 1) := by decide +kernel
theorem dX7_write_46 : decode cX7_write 46 = .ok (.getfield 11, 3) := by decide +kernel
theorem dX7_write_49 : decode cX7_write 49 = .ok (.iload_n 1, 1) := by decide +kernel
theorem dX7_write_50 : decode cX7_write 50 = .ok (.iconst 3, 1) := by decide +kernel
theorem dX7_write_51 : decode cX7_write 51 = .ok (.iadd, 1) := by decide +kernel
theorem dX7_write_52 : decode cX7_write 52 = .ok (.aload_n 2, 1) := by decide +kernel
theorem dX7_write_53 : decode cX7_write 53 = .ok (.getfield 39, 3) := by decide +kernel
theorem dX7_write_56 : decode cX7_write 56 = .ok (.aload_n 2, 1) := by decide +kernel
theorem dX7_write_57 : decode cX7_write 57 = .ok (.getfield 65, 3) := by decide +kernel
theorem dX7_write_60 : decode cX7_write 60 = .ok (.invokevirtual 84, 3) := by decide +kernel
theorem dX7_write_63 : decode cX7_write 63 = .ok (.iastore, 1) := by decide +kernel
theorem dX7_write_64 : decode cX7_write 64 = .ok (.aload_n 0, 1) := by decide +kernel
theorem dX7_write_65 : decode cX7_write 65 = .ok (.getfield 11, 3) := by decide +kernel
theorem dX7_write_68 : decode cX7_write 68 = .ok (.iload_n 1, 1) := by decide +kernel
theorem dX7_write_69 : decode cX7_write 69 = .ok (.iconst 4, 1) := by decide +kernel
theorem dX7_write_70 : decode cX7_write 70 = .ok (.iadd, 1) := by decide +kernel
theorem dX7_write_71 : decode cX7_write 71 = .ok (.aload_n 2, 1) := by decide +kernel
theorem dX7_write_72 : decode cX7_write 72 = .ok (.getfield 39, 3) := by decide +kernel
theorem dX7_write_75 : decode cX7_write 75 = .ok (.getfield 43, 3) := by decide +kernel
theorem dX7_write_78 : decode cX7_write 78 = .ok (.getfield 87, 3) := by decide +kernel
theorem dX7_write_81 : decode cX7_write 81 = .ok (.arraylength, 1) := by decide +kernel
theorem dX7_write_82 : decode cX7_write 82 = .ok (.iload 4, 2) := by decide +kernel
theorem dX7_write_84 : decode cX7_write 84 = .ok (.isub, 1) := by decide +kernel
theorem dX7_write_85 : decode cX7_write 85 = .ok (.iastore, 1) := by decide +kernel
theorem dX7_write_86 : decode cX7_write 86 = .ok (.aload_n 0, 1) := by decide +kernel
theorem dX7_write_87 : decode cX7_write 87 = .ok (.getfield 11, 3) := by decide +kernel
theorem dX7_write_90 : decode cX7_write 90 = .ok (.iload_n 1, 1) := by decide +kernel
theorem dX7_write_91 : decode cX7_write 91 = .ok (.iconst 5, 1) := by decide +kernel
theorem dX7_write_92 : decode cX7_write 92 = .ok (.iadd, 1) := by decide +kernel
theorem dX7_write_93 : decode cX7_write 93 = .ok (.aload_n 2, 1) := by decide +kernel
theorem dX7_write_94 : decode cX7_write 94 = .ok (.getfield 90, 3) := by decide +kernel
theorem dX7_write_97 : decode cX7_write 97 = .ok (.iastore, 1) := by decide +kernel
theorem dX7_write_98 : decode cX7_write 98 = .ok (.aload_n 0, 1) := by decide +kernel
theorem dX7_write_99 : decode cX7_write 99 = .ok (.getfield 11, 3) := by decide +kernel
theorem dX7_write_102 : decode cX7_write 102 = .ok (.iload_n 1, 1) := by decide +kernel
theorem dX7_write_103 : decode cX7_write 103 = .ok (.bipush 6, 2) := by decide +kernel
theorem dX7_write_105 : decode cX7_write 105 = .ok (.iadd, 1) := by decide +kernel
theorem dX7_write_106 : decode cX7_write 106 = .ok (.iload_n 3, 1) := by decide +kernel
theorem dX7_write_107 : decode cX7_write 107 = .ok (.iastore, 1) := by decide +kernel
theorem dX7_write_108 : decode cX7_write 108 = .ok (.return_, 1) := by decide +kernel
theorem dX7_hungryInAll_0 : decode cX7_hungryInAll 0 = .ok (.iconst 0, 1) := by decide +kernel
theorem dX7_hungryInAll_1 : decode cX7_hungryInAll 1 = .ok (.istore_n 1, 1) := by decide +kernel
theorem dX7_hungryInAll_2 : decode cX7_hungryInAll 2 = .ok (.iconst 0, 1) := by decide +kernel
theorem dX7_hungryInAll_3 : decode cX7_hungryInAll 3 = .ok (.istore_n 2, 1) := by decide +kernel
theorem dX7_hungryInAll_4 : decode cX7_hungryInAll 4 = .ok (.iload_n 2, 1) := by decide +kernel
theorem dX7_hungryInAll_5 : decode cX7_hungryInAll 5 = .ok (.aload_n 0, 1) := by decide +kernel
theorem dX7_hungryInAll_6 : decode cX7_hungryInAll 6 = .ok (.getfield 19, 3) := by decide +kernel
theorem dX7_hungryInAll_9 : decode cX7_hungryInAll 9 = .ok (.if_icmp .ge 24, 3) := by decide +kernel
theorem dX7_hungryInAll_12 : decode cX7_hungryInAll 12 = .ok (.iload_n 1, 1) := by decide +kernel
theorem dX7_hungryInAll_13 : decode cX7_hungryInAll 13 = .ok (.aload_n 0, 1) := by decide +kernel
theorem dX7_hungryInAll_14 : decode cX7_hungryInAll 14 = .ok (.getfield 11, 3) := by decide +kernel
theorem dX7_hungryInAll_17 : decode cX7_hungryInAll 17 = .ok (.iconst 0, 1) := by decide +kernel
theorem dX7_hungryInAll_18 : decode cX7_hungryInAll 18 = .ok (.iload_n 2, 1) := by decide +kernel
theorem dX7_hungryInAll_19 : decode cX7_hungryInAll 19 = .ok (.invokestatic 31, 3) := by decide +kernel
theorem dX7_hungryInAll_22 : decode cX7_hungryInAll 22 = .ok (.iconst 4, 1) := by decide +kernel
theorem dX7_hungryInAll_23 : decode cX7_hungryInAll 23 = .ok (.iadd, 1) := by decide +kernel
theorem dX7_hungryInAll_24 : decode cX7_hungryInAll 24 = .ok (.iaload, 1) := by decide +kernel
theorem dX7_hungryInAll_25 : decode cX7_hungryInAll 25 = .ok (.iadd, 1) := by decide +kernel
theorem dX7_hungryInAll_26 : decode cX7_hungryInAll 26 = .ok (.istore_n 1, 1) := by decide +kernel
theorem dX7_hungryInAll_27 : decode cX7_hungryInAll 27 = .ok (.iinc 2 1, 3) := by decide +kernel
theorem dX7_hungryInAll_30 : decode cX7_hungryInAll 30 = .ok (.goto (-26), 3) := by decide +kernel
theorem dX7_hungryInAll_33 : decode cX7_hungryInAll 33 = .ok (.iload_n 1, 1) := by decide +kernel
theorem dX7_hungryInAll_34 : decode cX7_hungryInAll 34 = .ok (.ireturn, 1) := by decide +kernel
theorem dX8_init_0 : decode cX8_init 0 = .ok (.aload_n 0, 1) := by decide +kernel
theorem dX8_init_1 : decode cX8_init 1 = .ok (.invokespecial 3, 3) := by decide +kernel
theorem dX8_init_4 : decode cX8_init 4 = .ok (.aload_n 0, 1) := by decide +kernel
theorem dX8_init_5 : decode cX8_init 5 = .ok (.sipush 240, 3) := by decide +kernel
theorem dX8_init_8 : decode cX8_init 8 = .ok (.newarray .int, 2) := by decide +kernel
theorem dX8_init_10 : decode cX8_init 10 = .ok (.putfield 9, 3) := by decide +kernel
theorem dX8_init_13 : decode cX8_init 13 = .ok (.return_, 1) := by decide +kernel
theorem dX8_bytesIn_0 : decode cX8_bytesIn 0 = .ok (.iconst 0, 1) := by decide +kernel
theorem dX8_bytesIn_1 : decode cX8_bytesIn 1 = .ok (.istore_n 1, 1) := by decide +kernel
theorem dX8_bytesIn_2 : decode cX8_bytesIn 2 = .ok (.bipush 24, 2) := by decide +kernel
theorem dX8_bytesIn_4 : decode cX8_bytesIn 4 = .ok (.istore_n 2, 1) := by decide +kernel
theorem dX8_bytesIn_5 : decode cX8_bytesIn 5 = .ok (.iload_n 2, 1) := by decide +kernel
theorem dX8_bytesIn_6 : decode cX8_bytesIn 6 = .ok (.ifCond .lt 22, 3) := by decide +kernel
theorem dX8_bytesIn_9 : decode cX8_bytesIn 9 = .ok (.iload_n 0, 1) := by decide +kernel
theorem dX8_bytesIn_10 : decode cX8_bytesIn 10 = .ok (.iload_n 2, 1) := by decide +kernel
theorem dX8_bytesIn_11 : decode cX8_bytesIn 11 = .ok (.iushr, 1) := by decide +kernel
theorem dX8_bytesIn_12 : decode cX8_bytesIn 12 = .ok (.sipush 255, 3) := by decide +kernel
theorem dX8_bytesIn_15 : decode cX8_bytesIn 15 = .ok (.iand, 1) := by decide +kernel
theorem dX8_bytesIn_16 : decode cX8_bytesIn 16 = .ok (.ifCond .eq 6, 3) := by decide +kernel
theorem dX8_bytesIn_19 : decode cX8_bytesIn 19 = .ok (.iinc 1 1, 3) := by decide +kernel
theorem dX8_bytesIn_22 : decode cX8_bytesIn 22 = .ok (.iinc 2 (-8), 3) := by decide +kernel
theorem dX8_bytesIn_25 : decode cX8_bytesIn 25 = .ok (.goto (-20), 3) := by decide +kernel
theorem dX8_bytesIn_28 : decode cX8_bytesIn 28 = .ok (.iload_n 1, 1) := by decide +kernel
theorem dX8_bytesIn_29 : decode cX8_bytesIn 29 = .ok (.ireturn, 1) := by decide +kernel
theorem dX8_put_0 : decode cX8_put 0 = .ok (.bipush 24, 2) := by decide +kernel
theorem dX8_put_2 : decode cX8_put 2 = .ok (.istore_n 2, 1) := by decide +kernel
theorem dX8_put_3 : decode cX8_put 3 = .ok (.iload_n 2, 1) := by decide +kernel
theorem dX8_put_4 : decode cX8_put 4 = .ok (.ifCond .lt 53, 3) := by decide +kernel
theorem dX8_put_7 : decode cX8_put 7 = .ok (.iload_n 1, 1) := by decide +kernel
theorem dX8_put_8 : decode cX8_put 8 = .ok (.iload_n 2, 1) := by decide +kernel
theorem dX8_put_9 : decode cX8_put 9 = .ok (.iushr, 1) := by decide +kernel
theorem dX8_put_10 : decode cX8_put 10 = .ok (.sipush 255, 3) := by decide +kernel
theorem dX8_put_13 : decode cX8_put 13 = .ok (.iand, 1) := by decide +kernel
theorem dX8_put_14 : decode cX8_put 14 = .ok (.istore_n 3, 1) := by decide +kernel
theorem dX8_put_15 : decode cX8_put 15 = .ok (.iload_n 3, 1) := by decide +kernel
theorem dX8_put_16 : decode cX8_put 16 = .ok (.ifCond .eq 35, 3) := by decide +kernel
theorem dX8_put_19 : decode cX8_put 19 = .ok (.aload_n 0, 1) := by decide +kernel
theorem dX8_put_20 : decode cX8_put 20 = .ok (.getfield 15, 3) := by decide +kernel
theorem dX8_put_23 : decode cX8_put 23 = .ok (.aload_n 0, 1) := by decide +kernel
theorem dX8_put_24 : decode cX8_put 24 = .ok (.getfield 9, 3) := by decide +kernel
theorem dX8_put_27 : decode cX8_put 27 = .ok (.arraylength, 1) := by decide +kernel
theorem dX8_put_28 : decode cX8_put 28 = .ok (.if_icmp .ge 23, 3) := by decide +kernel
theorem dX8_put_31 : decode cX8_put 31 = .ok (.aload_n 0, 1) := by decide +kernel
theorem dX8_put_32 : decode cX8_put 32 = .ok (.getfield 9, 3) := by decide +kernel
theorem dX8_put_35 : decode cX8_put 35 = .ok (.aload_n 0, 1) := by decide +kernel
theorem dX8_put_36 : decode cX8_put 36 = .ok (.getfield 15, 3) := by decide +kernel
theorem dX8_put_39 : decode cX8_put 39 = .ok (.iload_n 3, 1) := by decide +kernel
theorem dX8_put_40 : decode cX8_put 40 = .ok (.iastore, 1) := by decide +kernel
theorem dX8_put_41 : decode cX8_put 41 = .ok (.aload_n 0, 1) := by decide +kernel
theorem dX8_put_42 : decode cX8_put 42 = .ok (.dup, 1) := by decide +kernel
theorem dX8_put_43 : decode cX8_put 43 = .ok (.getfield 15, 3) := by decide +kernel
theorem dX8_put_46 : decode cX8_put 46 = .ok (.iconst 1, 1) := by decide +kernel
theorem dX8_put_47 : decode cX8_put 47 = .ok (.iadd, 1) := by decide +kernel
theorem dX8_put_48 : decode cX8_put 48 = .ok (.putfield 15, 3) := by decide +kernel
theorem dX8_put_51 : decode cX8_put 51 = .ok (.iinc 2 (-8), 3) := by decide +kernel
theorem dX8_put_54 : decode cX8_put 54 = .ok (.goto (-51), 3) := by decide +kernel
theorem dX8_put_57 : decode cX8_put 57 = .ok (.return_, 1) := by decide +kernel
theorem dX9_init_0 : decode cX9_init 0 = .ok (.aload_n 0, 1) := by decide +kernel
theorem dX9_init_1 : decode cX9_init 1 = .ok (.invokespecial 3, 3) := by decide +kernel
theorem dX9_init_4 : decode cX9_init 4 = .ok (.return_, 1) := by decide +kernel
theorem dX9_begin_0 : decode cX9_begin 0 = .ok (.aload_n 0, 1) := by decide +kernel
theorem dX9_begin_1 : decode cX9_begin 1 = .ok (.aload_n 1, 1) := by decide +kernel
theorem dX9_begin_2 : decode cX9_begin 2 = .ok (.putfield 9, 3) := by decide +kernel
theorem dX9_begin_5 : decode cX9_begin 5 = .ok (.aload_n 0, 1) := by decide +kernel
theorem dX9_begin_6 : decode cX9_begin 6 = .ok (.aload_n 2, 1) := by decide +kernel
theorem dX9_begin_7 : decode cX9_begin 7 = .ok (.putfield 15, 3) := by decide +kernel
theorem dX9_begin_10 : decode cX9_begin 10 = .ok (.aload_n 0, 1) := by decide +kernel
theorem dX9_begin_11 : decode cX9_begin 11 = .ok (.iload_n 3, 1) := by decide +kernel
theorem dX9_begin_12 : decode cX9_begin 12 = .ok (.putfield 19, 3) := by decide +kernel
theorem dX9_begin_15 : decode cX9_begin 15 = .ok (.aload_n 0, 1) := by decide +kernel
theorem dX9_begin_16 : decode cX9_begin 16 = .ok (.iconst 0, 1) := by decide +kernel
theorem dX9_begin_17 : decode cX9_begin 17 = .ok (.putfield 23, 3) := by decide +kernel
theorem dX9_begin_20 : decode cX9_begin 20 = .ok (.aload_n 0, 1) := by decide +kernel
theorem dX9_begin_21 : decode cX9_begin 21 = .ok (.iconst 0, 1) := by decide +kernel
theorem dX9_begin_22 : decode cX9_begin 22 = .ok (.putfield 26, 3) := by decide +kernel
theorem dX9_begin_25 : decode cX9_begin 25 = .ok (.return_, 1) := by decide +kernel
theorem dX9_openSeason_0 : decode cX9_openSeason 0 = .ok (.aload_n 0, 1) := by decide +kernel
theorem dX9_openSeason_1 : decode cX9_openSeason 1 = .ok (.aload_n 0, 1) := by decide +kernel
theorem dX9_openSeason_2 : decode cX9_openSeason 2 = .ok (.getfield 19, 3) := by decide +kernel
theorem dX9_openSeason_5 : decode cX9_openSeason 5 = .ok (.aload_n 0, 1) := by decide +kernel
theorem dX9_openSeason_6 : decode cX9_openSeason 6 = .ok (.getfield 15, 3) := by decide +kernel
theorem dX9_openSeason_9 : decode cX9_openSeason 9 = .ok (.iload_n 1, 1) := by decide +kernel
theorem dX9_openSeason_10 : decode cX9_openSeason 10 = .ok (.iaload, 1) := by decide +kernel
theorem dX9_openSeason_11 : decode cX9_openSeason 11 = .ok (.iadd, 1) := by decide +kernel
theorem dX9_openSeason_12 : decode cX9_openSeason 12 = .ok (.putfield 29, 3) := by decide +kernel
theorem dX9_openSeason_15 : decode cX9_openSeason 15 = .ok (.aload_n 0, 1) := by decide +kernel
theorem dX9_openSeason_16 : decode cX9_openSeason 16 = .ok (.aload_n 0, 1) := by decide +kernel
theorem dX9_openSeason_17 : decode cX9_openSeason 17 = .ok (.getfield 9, 3) := by decide +kernel
theorem dX9_openSeason_20 : decode cX9_openSeason 20 = .ok (.iload_n 3, 1) := by decide +kernel
theorem dX9_openSeason_21 : decode cX9_openSeason 21 = .ok (.iload_n 2, 1) := by decide +kernel
theorem dX9_openSeason_22 : decode cX9_openSeason 22 = .ok (.aload_n 0, 1) := by decide +kernel
theorem dX9_openSeason_23 : decode cX9_openSeason 23 = .ok (.getfield 29, 3) := by decide +kernel
theorem dX9_openSeason_26 : decode cX9_openSeason 26 = .ok (.invokevirtual 32, 3) := by decide +kernel
theorem dX9_openSeason_29 : decode cX9_openSeason 29 = .ok (.putfield 38, 3) := by decide +kernel
theorem dX9_openSeason_32 : decode cX9_openSeason 32 = .ok (.aload_n 0, 1) := by decide +kernel
theorem dX9_openSeason_33 : decode cX9_openSeason 33 = .ok (.aload_n 0, 1) := by decide +kernel
theorem dX9_openSeason_34 : decode cX9_openSeason 34 = .ok (.getfield 9, 3) := by decide +kernel
theorem dX9_openSeason_37 : decode cX9_openSeason 37 = .ok (.getfield 41, 3) := by decide +kernel
theorem dX9_openSeason_40 : decode cX9_openSeason 40 = .ok (.aload_n 0, 1) := by decide +kernel
theorem dX9_openSeason_41 : decode cX9_openSeason 41 = .ok (.getfield 38, 3) := by decide +kernel
theorem dX9_openSeason_44 : decode cX9_openSeason 44 = .ok (.invokevirtual 45, 3) := by decide +kernel
theorem dX9_openSeason_47 : decode cX9_openSeason 47 = .ok (.putfield 19, 3) := by decide +kernel
theorem dX9_openSeason_50 : decode cX9_openSeason 50 = .ok (.aload_n 0, 1) := by decide +kernel
theorem dX9_openSeason_51 : decode cX9_openSeason 51 = .ok (.aload_n 0, 1) := by decide +kernel
theorem dX9_openSeason_52 : decode cX9_openSeason 52 = .ok (.getfield 29, 3) := by decide +kernel
theorem dX9_openSeason_55 : decode cX9_openSeason 55 = .ok (.aload_n 0, 1) := by decide +kernel
theorem dX9_openSeason_56 : decode cX9_openSeason 56 = .ok (.getfield 38, 3) := by decide +kernel
theorem dX9_openSeason_59 : decode cX9_openSeason 59 = .ok (.isub, 1) := by decide +kernel
theorem dX9_openSeason_60 : decode cX9_openSeason 60 = .ok (.putfield 51, 3) := by decide +kernel
theorem dX9_openSeason_63 : decode cX9_openSeason 63 = .ok (.return_, 1) := by decide +kernel
theorem dX9_priceNow_0 : decode cX9_priceNow 0 = .ok (.aload_n 0, 1) := by decide +kernel
theorem dX9_priceNow_1 : decode cX9_priceNow 1 = .ok (.getfield 9, 3) := by decide +kernel
theorem dX9_priceNow_4 : decode cX9_priceNow 4 = .ok (.getfield 41, 3) := by decide +kernel
theorem dX9_priceNow_7 : decode cX9_priceNow 7 = .ok (.aload_n 0, 1) := by decide +kernel
theorem dX9_priceNow_8 : decode cX9_priceNow 8 = .ok (.getfield 51, 3) := by decide +kernel
theorem dX9_priceNow_11 : decode cX9_priceNow 11 = .ok (.invokevirtual 54, 3) := by decide +kernel
theorem dX9_priceNow_14 : decode cX9_priceNow 14 = .ok (.ireturn, 1) := by decide +kernel
theorem dX9_priceWithOneFewer_0 : decode cX9_priceWithOneFewer 0 = .ok (.aload_n 0, 1) := by decide +kernel
theorem dX9_priceWithOneFewer_1 : decode cX9_priceWithOneFewer 1 = .ok (.getfield 9, 3) := by decide +kernel
theorem dX9_priceWithOneFewer_4 : decode cX9_priceWithOneFewer 4 = .ok (.getfield 41, 3) := by decide +kernel
theorem dX9_priceWithOneFewer_7 : decode cX9_priceWithOneFewer 7 = .ok (.aload_n 0, 1) := by decide +kernel
theorem dX9_priceWithOneFewer_8 : decode cX9_priceWithOneFewer 8 = .ok (.getfield 51, 3) := by decide +kernel
theorem dX9_priceWithOneFewer_11 : decode cX9_priceWithOneFewer 11 = .ok (.iconst 1, 1) := by decide +kernel
theorem dX9_priceWithOneFewer_12 : decode cX9_priceWithOneFewer 12 = .ok (.isub, 1) := by decide +kernel
theorem dX9_priceWithOneFewer_13 : decode cX9_priceWithOneFewer 13 = .ok (.invokevirtual 54, 3) := by decide +kernel
theorem dX9_priceWithOneFewer_16 : decode cX9_priceWithOneFewer 16 = .ok (.ireturn, 1) := by decide +kernel
theorem dX9_tradeWithGranary_0 : decode cX9_tradeWithGranary 0 = .ok (.aload_n 0, 1) := by decide +kernel
theorem dX9_tradeWithGranary_1 : decode cX9_tradeWithGranary 1 = .ok (.getfield 9, 3) := by decide +kernel
theorem dX9_tradeWithGranary_4 : decode cX9_tradeWithGranary 4 = .ok (.getfield 57, 3) := by decide +kernel
theorem dX9_tradeWithGranary_7 : decode cX9_tradeWithGranary 7 = .ok (.iconst 3, 1) := by decide +kernel
theorem dX9_tradeWithGranary_8 : decode cX9_tradeWithGranary 8 = .ok (.if_icmp .eq 14, 3) := by decide +kernel
theorem dX9_tradeWithGranary_11 : decode cX9_tradeWithGranary 11 = .ok (.aload_n 0, 1) := by decide +kernel
theorem dX9_tradeWithGranary_12 : decode cX9_tradeWithGranary 12 = .ok (.invokevirtual 60, 3) := by decide +kernel
theorem dX9_tradeWithGranary_15 : decode cX9_tradeWithGranary 15 = .ok (.ifCond .ne 7, 3) := by decide +kernel
theorem dX9_tradeWithGranary_18 : decode cX9_tradeWithGranary 18 = .ok (.aload_n 0, 1) := by decide +kernel
theorem dX9_tradeWithGranary_19 : decode cX9_tradeWithGranary 19 = .ok (.invokevirtual 64, 3) := by decide +kernel
theorem dX9_tradeWithGranary_22 : decode cX9_tradeWithGranary 22 = .ok (.return_, 1) := by decide +kernel
theorem dX9_granaryBuys_0 : decode cX9_granaryBuys 0 = .ok (.iconst 0, 1) := by decide +kernel
theorem dX9_granaryBuys_1 : decode cX9_granaryBuys 1 = .ok (.istore_n 1, 1) := by decide +kernel
theorem dX9_granaryBuys_2 : decode cX9_granaryBuys 2 = .ok (.aload_n 0, 1) := by decide +kernel
theorem dX9_granaryBuys_3 : decode cX9_granaryBuys 3 = .ok (.getfield 23, 3) := by decide +kernel
theorem dX9_granaryBuys_6 : decode cX9_granaryBuys 6 = .ok (.istore_n 2, 1) := by decide +kernel
theorem dX9_granaryBuys_7 : decode cX9_granaryBuys 7 = .ok (.iload_n 2, 1) := by decide +kernel
theorem dX9_granaryBuys_8 : decode cX9_granaryBuys 8 = .ok (.aload_n 0, 1) := by decide +kernel
theorem dX9_granaryBuys_9 : decode cX9_granaryBuys 9 = .ok (.getfield 9, 3) := by decide +kernel
theorem dX9_granaryBuys_12 : decode cX9_granaryBuys 12 = .ok (.getfield 41, 3) := by decide +kernel
theorem dX9_granaryBuys_15 : decode cX9_granaryBuys 15 = .ok (.getfield 67, 3) := by decide +kernel
theorem dX9_granaryBuys_18 : decode cX9_granaryBuys 18 = .ok (.if_icmp .ge 71, 3) := by decide +kernel
theorem dX9_granaryBuys_21 : decode cX9_granaryBuys 21 = .ok (.aload_n 0, 1) := by decide +kernel
theorem dX9_granaryBuys_22 : decode cX9_granaryBuys 22 = .ok (.invokevirtual 70, 3) := by decide +kernel
theorem dX9_granaryBuys_25 : decode cX9_granaryBuys 25 = .ok (.aload_n 0, 1) := by decide +kernel
theorem dX9_granaryBuys_26 : decode cX9_granaryBuys 26 = .ok (.getfield 9, 3) := by decide +kernel
theorem dX9_granaryBuys_29 : decode cX9_granaryBuys 29 = .ok (.getfield 41, 3) := by decide +kernel
theorem dX9_granaryBuys_32 : decode cX9_granaryBuys 32 = .ok (.getfield 74, 3) := by decide +kernel
theorem dX9_granaryBuys_35 : decode cX9_granaryBuys 35 = .ok (.if_icmp .ge 54, 3) := by decide +kernel
theorem dX9_granaryBuys_38 : decode cX9_granaryBuys 38 = .ok (.aload_n 0, 1) := by decide +kernel
theorem dX9_granaryBuys_39 : decode cX9_granaryBuys 39 = .ok (.getfield 51, 3) := by decide +kernel
theorem dX9_granaryBuys_42 : decode cX9_granaryBuys 42 = .ok (.ifCond .gt 6, 3) := by decide +kernel
theorem dX9_granaryBuys_45 : decode cX9_granaryBuys 45 = .ok (.goto 44, 3) := by decide +kernel
theorem dX9_granaryBuys_48 : decode cX9_granaryBuys 48 = .ok (.aload_n 0, 1) := by decide +kernel
theorem dX9_granaryBuys_49 : decode cX9_granaryBuys 49 = .ok (.dup, 1) := by decide +kernel
theorem dX9_granaryBuys_50 : decode cX9_granaryBuys 50 = .ok (.getfield 26, 3) := by decide +kernel
theorem dX9_granaryBuys_53 : decode cX9_granaryBuys 53 = .ok (.aload_n 0, 1) := by decide +kernel
theorem dX9_granaryBuys_54 : decode cX9_granaryBuys 54 = .ok (.invokevirtual 70, 3) := by decide +kernel
theorem dX9_granaryBuys_57 : decode cX9_granaryBuys 57 = .ok (.iadd, 1) := by decide +kernel
theorem dX9_granaryBuys_58 : decode cX9_granaryBuys 58 = .ok (.putfield 26, 3) := by decide +kernel
theorem dX9_granaryBuys_61 : decode cX9_granaryBuys 61 = .ok (.aload_n 0, 1) := by decide +kernel
theorem dX9_granaryBuys_62 : decode cX9_granaryBuys 62 = .ok (.dup, 1) := by decide +kernel
theorem dX9_granaryBuys_63 : decode cX9_granaryBuys 63 = .ok (.getfield 51, 3) := by decide +kernel
theorem dX9_granaryBuys_66 : decode cX9_granaryBuys 66 = .ok (.iconst 1, 1) := by decide +kernel
theorem dX9_granaryBuys_67 : decode cX9_granaryBuys 67 = .ok (.isub, 1) := by decide +kernel
theorem dX9_granaryBuys_68 : decode cX9_granaryBuys 68 = .ok (.putfield 51, 3) := by decide +kernel
theorem dX9_granaryBuys_71 : decode cX9_granaryBuys 71 = .ok (.aload_n 0, 1) := by decide +kernel
theorem dX9_granaryBuys_72 : decode cX9_granaryBuys 72 = .ok (.dup, 1) := by decide +kernel
theorem dX9_granaryBuys_73 : decode cX9_granaryBuys 73 = .ok (.getfield 23, 3) := by decide +kernel
theorem dX9_granaryBuys_76 : decode cX9_granaryBuys 76 = .ok (.iconst 1, 1) := by decide +kernel
theorem dX9_granaryBuys_77 : decode cX9_granaryBuys 77 = .ok (.iadd, 1) := by decide +kernel
theorem dX9_granaryBuys_78 : decode cX9_granaryBuys 78 = .ok (.putfield 23, 3) := by decide +kernel
theorem dX9_granaryBuys_81 : decode cX9_granaryBuys 81 = .ok (.iconst 1, 1) := by decide +kernel
theorem dX9_granaryBuys_82 : decode cX9_granaryBuys 82 = .ok (.istore_n 1, 1) := by decide +kernel
theorem dX9_granaryBuys_83 : decode cX9_granaryBuys 83 = .ok (.iinc 2 1, 3) := by decide +kernel
theorem dX9_granaryBuys_86 : decode cX9_granaryBuys 86 = .ok (.goto (-79), 3) := by decide +kernel
theorem dX9_granaryBuys_89 : decode cX9_granaryBuys 89 = .ok (.iload_n 1, 1) := by decide +kernel
theorem dX9_granaryBuys_90 : decode cX9_granaryBuys 90 = .ok (.ireturn, 1) := by decide +kernel
theorem dX9_granarySells_0 : decode cX9_granarySells 0 = .ok (.aload_n 0, 1) := by decide +kernel
theorem dX9_granarySells_1 : decode cX9_granarySells 1 = .ok (.getfield 23, 3) := by decide +kernel
theorem dX9_granarySells_4 : decode cX9_granarySells 4 = .ok (.istore_n 1, 1) := by decide +kernel
theorem dX9_granarySells_5 : decode cX9_granarySells 5 = .ok (.iload_n 1, 1) := by decide +kernel
theorem dX9_granarySells_6 : decode cX9_granarySells 6 = .ok (.ifCond .le 62, 3) := by decide +kernel
theorem dX9_granarySells_9 : decode cX9_granarySells 9 = .ok (.aload_n 0, 1) := by decide +kernel
theorem dX9_granarySells_10 : decode cX9_granarySells 10 = .ok (.invokevirtual 70, 3) := by decide +kernel
theorem dX9_granarySells_13 : decode cX9_granarySells 13 = .ok (.aload_n 0, 1) := by decide +kernel
theorem dX9_granarySells_14 : decode cX9_granarySells 14 = .ok (.getfield 9, 3) := by decide +kernel
theorem dX9_granarySells_17 : decode cX9_granarySells 17 = .ok (.getfield 41, 3) := by decide +kernel
theorem dX9_granarySells_20 : decode cX9_granarySells 20 = .ok (.getfield 77, 3) := by decide +kernel
theorem dX9_granarySells_23 : decode cX9_granarySells 23 = .ok (.if_icmp .gt 6, 3) := by decide +kernel
theorem dX9_granarySells_26 : decode cX9_granarySells 26 = .ok (.goto 42, 3) := by decide +kernel
theorem dX9_granarySells_29 : decode cX9_granarySells 29 = .ok (.aload_n 0, 1) := by decide +kernel
theorem dX9_granarySells_30 : decode cX9_granarySells 30 = .ok (.dup, 1) := by decide +kernel
theorem dX9_granarySells_31 : decode cX9_granarySells 31 = .ok (.getfield 26, 3) := by decide +kernel
theorem dX9_granarySells_34 : decode cX9_granarySells 34 = .ok (.aload_n 0, 1) := by decide +kernel
theorem dX9_granarySells_35 : decode cX9_granarySells 35 = .ok (.invokevirtual 70, 3) := by decide +kernel
theorem dX9_granarySells_38 : decode cX9_granarySells 38 = .ok (.isub, 1) := by decide +kernel
theorem dX9_granarySells_39 : decode cX9_granarySells 39 = .ok (.putfield 26, 3) := by decide +kernel
theorem dX9_granarySells_42 : decode cX9_granarySells 42 = .ok (.aload_n 0, 1) := by decide +kernel
theorem dX9_granarySells_43 : decode cX9_granarySells 43 = .ok (.dup, 1) := by decide +kernel
theorem dX9_granarySells_44 : decode cX9_granarySells 44 = .ok (.getfield 51, 3) := by decide +kernel
theorem dX9_granarySells_47 : decode cX9_granarySells 47 = .ok (.iconst 1, 1) := by decide +kernel
theorem dX9_granarySells_48 : decode cX9_granarySells 48 = .ok (.iadd, 1) := by decide +kernel
theorem dX9_granarySells_49 : decode cX9_granarySells 49 = .ok (.putfield 51, 3) := by decide +kernel
theorem dX9_granarySells_52 : decode cX9_granarySells 52 = .ok (.aload_n 0, 1) := by decide +kernel
theorem dX9_granarySells_53 : decode cX9_granarySells 53 = .ok (.dup, 1) := by decide +kernel
theorem dX9_granarySells_54 : decode cX9_granarySells 54 = .ok (.getfield 23, 3) := by decide +kernel
theorem dX9_granarySells_57 : decode cX9_granarySells 57 = .ok (.iconst 1, 1) := by decide +kernel
theorem dX9_granarySells_58 : decode cX9_granarySells 58 = .ok (.isub, 1) := by decide +kernel
theorem dX9_granarySells_59 : decode cX9_granarySells 59 = .ok (.putfield 23, 3) := by decide +kernel
theorem dX9_granarySells_62 : decode cX9_granarySells 62 = .ok (.iinc 1 (-1), 3) := by decide +kernel
theorem dX9_granarySells_65 : decode cX9_granarySells 65 = .ok (.goto (-60), 3) := by decide +kernel
theorem dX9_granarySells_68 : decode cX9_granarySells 68 = .ok (.return_, 1) := by decide +kernel
theorem dJ9_max_7cf53_0 : decode cJ9_max_7cf53 0 = .ok (.iload_n 0, 1) := by decide +kernel
theorem dJ9_max_7cf53_1 : decode cJ9_max_7cf53 1 = .ok (.iload_n 1, 1) := by decide +kernel
theorem dJ9_max_7cf53_2 : decode cJ9_max_7cf53 2 = .ok (.if_icmp .lt 7, 3) := by decide +kernel
theorem dJ9_max_7cf53_5 : decode cJ9_max_7cf53 5 = .ok (.iload_n 0, 1) := by decide +kernel
theorem dJ9_max_7cf53_6 : decode cJ9_max_7cf53 6 = .ok (.goto 4, 3) := by decide +kernel
theorem dJ9_max_7cf53_9 : decode cJ9_max_7cf53 9 = .ok (.iload_n 1, 1) := by decide +kernel
theorem dJ9_max_7cf53_10 : decode cJ9_max_7cf53 10 = .ok (.ireturn, 1) := by decide +kernel
theorem dJ9_max_f86c9_0 : decode cJ9_max_f86c9 0 = .ok (.lload_n 0, 1) := by decide +kernel
theorem dJ9_max_f86c9_1 : decode cJ9_max_f86c9 1 = .ok (.lload_n 2, 1) := by decide +kernel
theorem dJ9_max_f86c9_2 : decode cJ9_max_f86c9 2 = .ok (.lcmp, 1) := by decide +kernel
theorem dJ9_max_f86c9_3 : decode cJ9_max_f86c9 3 = .ok (.ifCond .lt 7, 3) := by decide +kernel
theorem dJ9_max_f86c9_6 : decode cJ9_max_f86c9 6 = .ok (.lload_n 0, 1) := by decide +kernel
theorem dJ9_max_f86c9_7 : decode cJ9_max_f86c9 7 = .ok (.goto 4, 3) := by decide +kernel
theorem dJ9_max_f86c9_10 : decode cJ9_max_f86c9 10 = .ok (.lload_n 2, 1) := by decide +kernel
theorem dJ9_max_f86c9_11 : decode cJ9_max_f86c9 11 = .ok (.lreturn, 1) := by decide +kernel
theorem dJ9_min_7cf53_0 : decode cJ9_min_7cf53 0 = .ok (.iload_n 0, 1) := by decide +kernel
theorem dJ9_min_7cf53_1 : decode cJ9_min_7cf53 1 = .ok (.iload_n 1, 1) := by decide +kernel
theorem dJ9_min_7cf53_2 : decode cJ9_min_7cf53 2 = .ok (.if_icmp .gt 7, 3) := by decide +kernel
theorem dJ9_min_7cf53_5 : decode cJ9_min_7cf53 5 = .ok (.iload_n 0, 1) := by decide +kernel
theorem dJ9_min_7cf53_6 : decode cJ9_min_7cf53 6 = .ok (.goto 4, 3) := by decide +kernel
theorem dJ9_min_7cf53_9 : decode cJ9_min_7cf53 9 = .ok (.iload_n 1, 1) := by decide +kernel
theorem dJ9_min_7cf53_10 : decode cJ9_min_7cf53 10 = .ok (.ireturn, 1) := by decide +kernel
theorem dJ9_min_f86c9_0 : decode cJ9_min_f86c9 0 = .ok (.lload_n 0, 1) := by decide +kernel
theorem dJ9_min_f86c9_1 : decode cJ9_min_f86c9 1 = .ok (.lload_n 2, 1) := by decide +kernel
theorem dJ9_min_f86c9_2 : decode cJ9_min_f86c9 2 = .ok (.lcmp, 1) := by decide +kernel
theorem dJ9_min_f86c9_3 : decode cJ9_min_f86c9 3 = .ok (.ifCond .gt 7, 3) := by decide +kernel
theorem dJ9_min_f86c9_6 : decode cJ9_min_f86c9 6 = .ok (.lload_n 0, 1) := by decide +kernel
theorem dJ9_min_f86c9_7 : decode cJ9_min_f86c9 7 = .ok (.goto 4, 3) := by decide +kernel
theorem dJ9_min_f86c9_10 : decode cJ9_min_f86c9 10 = .ok (.lload_n 2, 1) := by decide +kernel
theorem dJ9_min_f86c9_11 : decode cJ9_min_f86c9 11 = .ok (.lreturn, 1) := by decide +kernel
theorem dJ7_fill_d0a16_0 : decode cJ7_fill_d0a16 0 = .ok (.iconst 0, 1) := by decide +kernel
theorem dJ7_fill_d0a16_1 : decode cJ7_fill_d0a16 1 = .ok (.istore_n 3, 1) := by decide +kernel
theorem dJ7_fill_d0a16_2 : decode cJ7_fill_d0a16 2 = .ok (.aload_n 0, 1) := by decide +kernel
theorem dJ7_fill_d0a16_3 : decode cJ7_fill_d0a16 3 = .ok (.arraylength, 1) := by decide +kernel
theorem dJ7_fill_d0a16_4 : decode cJ7_fill_d0a16 4 = .ok (.istore 4, 2) := by decide +kernel
theorem dJ7_fill_d0a16_6 : decode cJ7_fill_d0a16 6 = .ok (.iload_n 3, 1) := by decide +kernel
theorem dJ7_fill_d0a16_7 : decode cJ7_fill_d0a16 7 = .ok (.iload 4, 2) := by decide +kernel
theorem dJ7_fill_d0a16_9 : decode cJ7_fill_d0a16 9 = .ok (.if_icmp .ge 13, 3) := by decide +kernel
theorem dJ7_fill_d0a16_12 : decode cJ7_fill_d0a16 12 = .ok (.aload_n 0, 1) := by decide +kernel
theorem dJ7_fill_d0a16_13 : decode cJ7_fill_d0a16 13 = .ok (.iload_n 3, 1) := by decide +kernel
theorem dJ7_fill_d0a16_14 : decode cJ7_fill_d0a16 14 = .ok (.lload_n 1, 1) := by decide +kernel
theorem dJ7_fill_d0a16_15 : decode cJ7_fill_d0a16 15 = .ok (.lastore, 1) := by decide +kernel
theorem dJ7_fill_d0a16_16 : decode cJ7_fill_d0a16 16 = .ok (.iinc 3 1, 3) := by decide +kernel
theorem dJ7_fill_d0a16_19 : decode cJ7_fill_d0a16 19 = .ok (.goto (-13), 3) := by decide +kernel
theorem dJ7_fill_d0a16_22 : decode cJ7_fill_d0a16 22 = .ok (.return_, 1) := by decide +kernel
theorem dJ7_fill_53178_0 : decode cJ7_fill_53178 0 = .ok (.iconst 0, 1) := by decide +kernel
theorem dJ7_fill_53178_1 : decode cJ7_fill_53178 1 = .ok (.istore_n 2, 1) := by decide +kernel
theorem dJ7_fill_53178_2 : decode cJ7_fill_53178 2 = .ok (.aload_n 0, 1) := by decide +kernel
theorem dJ7_fill_53178_3 : decode cJ7_fill_53178 3 = .ok (.arraylength, 1) := by decide +kernel
theorem dJ7_fill_53178_4 : decode cJ7_fill_53178 4 = .ok (.istore_n 3, 1) := by decide +kernel
theorem dJ7_fill_53178_5 : decode cJ7_fill_53178 5 = .ok (.iload_n 2, 1) := by decide +kernel
theorem dJ7_fill_53178_6 : decode cJ7_fill_53178 6 = .ok (.iload_n 3, 1) := by decide +kernel
theorem dJ7_fill_53178_7 : decode cJ7_fill_53178 7 = .ok (.if_icmp .ge 13, 3) := by decide +kernel
theorem dJ7_fill_53178_10 : decode cJ7_fill_53178 10 = .ok (.aload_n 0, 1) := by decide +kernel
theorem dJ7_fill_53178_11 : decode cJ7_fill_53178 11 = .ok (.iload_n 2, 1) := by decide +kernel
theorem dJ7_fill_53178_12 : decode cJ7_fill_53178 12 = .ok (.iload_n 1, 1) := by decide +kernel
theorem dJ7_fill_53178_13 : decode cJ7_fill_53178 13 = .ok (.iastore, 1) := by decide +kernel
theorem dJ7_fill_53178_14 : decode cJ7_fill_53178 14 = .ok (.iinc 2 1, 3) := by decide +kernel
theorem dJ7_fill_53178_17 : decode cJ7_fill_53178 17 = .ok (.goto (-12), 3) := by decide +kernel
theorem dJ7_fill_53178_20 : decode cJ7_fill_53178 20 = .ok (.return_, 1) := by decide +kernel
theorem dJ7_copyOf_59c91_0 : decode cJ7_copyOf_59c91 0 = .ok (.iload_n 1, 1) := by decide +kernel
theorem dJ7_copyOf_59c91_1 : decode cJ7_copyOf_59c91 1 = .ok (.aload_n 0, 1) := by decide +kernel
theorem dJ7_copyOf_59c91_2 : decode cJ7_copyOf_59c91 2 = .ok (.arraylength, 1) := by decide +kernel
theorem dJ7_copyOf_59c91_3 : decode cJ7_copyOf_59c91 3 = .ok (.if_icmp .ne 11, 3) := by decide +kernel
theorem dJ7_copyOf_59c91_6 : decode cJ7_copyOf_59c91 6 = .ok (.aload_n 0, 1) := by decide +kernel
theorem dJ7_copyOf_59c91_7 : decode cJ7_copyOf_59c91 7 = .ok (.invokevirtual 316, 3) := by decide +kernel
theorem dJ7_copyOf_59c91_10 : decode cJ7_copyOf_59c91 10 = .ok (.checkcast 317, 3) := by decide +kernel
theorem dJ7_copyOf_59c91_13 : decode cJ7_copyOf_59c91 13 = .ok (.areturn, 1) := by decide +kernel
theorem dJ7_copyOf_59c91_14 : decode cJ7_copyOf_59c91 14 = .ok (.iload_n 1, 1) := by decide +kernel
theorem dJ7_copyOf_59c91_15 : decode cJ7_copyOf_59c91 15 = .ok (.newarray .int, 2) := by decide +kernel
theorem dJ7_copyOf_59c91_17 : decode cJ7_copyOf_59c91 17 = .ok (.astore_n 2, 1) := by decide +kernel
theorem dJ7_copyOf_59c91_18 : decode cJ7_copyOf_59c91 18 = .ok (.aload_n 0, 1) := by decide +kernel
theorem dJ7_copyOf_59c91_19 : decode cJ7_copyOf_59c91 19 = .ok (.iconst 0, 1) := by decide +kernel
theorem dJ7_copyOf_59c91_20 : decode cJ7_copyOf_59c91 20 = .ok (.aload_n 2, 1) := by decide +kernel
theorem dJ7_copyOf_59c91_21 : decode cJ7_copyOf_59c91 21 = .ok (.iconst 0, 1) := by decide +kernel
theorem dJ7_copyOf_59c91_22 : decode cJ7_copyOf_59c91 22 = .ok (.aload_n 0, 1) := by decide +kernel
theorem dJ7_copyOf_59c91_23 : decode cJ7_copyOf_59c91 23 = .ok (.arraylength, 1) := by decide +kernel
theorem dJ7_copyOf_59c91_24 : decode cJ7_copyOf_59c91 24 = .ok (.iload_n 1, 1) := by decide +kernel
theorem dJ7_copyOf_59c91_25 : decode cJ7_copyOf_59c91 25 = .ok (.invokestatic 304, 3) := by decide +kernel
theorem dJ7_copyOf_59c91_28 : decode cJ7_copyOf_59c91 28 = .ok (.invokestatic 150, 3) := by decide +kernel
theorem dJ7_copyOf_59c91_31 : decode cJ7_copyOf_59c91 31 = .ok (.aload_n 2, 1) := by decide +kernel
theorem dJ7_copyOf_59c91_32 : decode cJ7_copyOf_59c91 32 = .ok (.areturn, 1) := by decide +kernel
